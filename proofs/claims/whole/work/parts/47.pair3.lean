/-! ===== class and reference side by side: sheets ===== -/
theorem sh_ex (s : Int) : ∃ k l, jShx s k l ∧ (0 ≤ s ∧ s < 4 → shI s k l) ∧ jSh k l := by
  by_cases h0 : s = 0
  · exact ⟨14, 15, Or.inl ⟨h0, rfl, rfl⟩, fun _ => Or.inl ⟨h0, rfl, rfl⟩, sh0⟩
  · by_cases h1 : s = 1
    · exact ⟨16, 17, Or.inr (Or.inl ⟨h1, rfl, rfl⟩), fun _ => Or.inr (Or.inl ⟨h1, rfl, rfl⟩), sh1⟩
    · by_cases h2 : s = 2
      · exact ⟨18, 19, Or.inr (Or.inr (Or.inl ⟨h2, rfl, rfl⟩)), fun _ => Or.inr (Or.inr (Or.inl ⟨h2, rfl, rfl⟩)), sh2⟩
      · by_cases h3 : s = 3
        · exact ⟨20, 21, Or.inr (Or.inr (Or.inr (Or.inl ⟨h3, rfl, rfl⟩))), fun _ => Or.inr (Or.inr (Or.inr ⟨h3, rfl, rfl⟩)), sh3⟩
        · exact ⟨14, 15, Or.inr (Or.inr (Or.inr (Or.inr (by omega)))), fun z => by omega, sh0⟩
theorem shI.r {s : Int} {k l : Nat} (h : shI s k l) : (0 ≤ s ∧ s < 4) ∧ (14 ≤ k ∧ k ≤ 20) ∧ l = k + 1 ∧ (k : Int) = 14 + 2 * s := by
  unfold shI at h
  omega
theorem aSh.at {H : jH} (a : aSh H) {s : Int} {k l : Nat} (hs : shI s k l) : ((H k 0 = 0 ∨ H k 0 = 1) ∧ (0 ≤ H k 1 ∧ H k 1 < 3) ∧ (0 ≤ H k 2 ∧ H k 2 ≤ 60)) ∧ ((-1 ≤ H 57 s ∧ H 57 s ≤ 2) ∧ (0 ≤ H 58 s ∧ H 58 s ≤ 60)) ∧ (H k 0 = 0 → H 57 s = H k 1 ∧ H 58 s = H k 2 ∧ ∀ i, 0 ≤ i → i < H k 2 → H 59 (60 * s + i) = H l i) ∧ (H k 0 ≠ 0 → H 57 s = -1) := by
  have hj : jSh k l := by unfold shI at hs; unfold jSh; omega
  have hr := hs.r
  obtain ⟨r1, r2, r3⟩ := a.2.2 s k l hs
  exact ⟨a.1 k l hj, a.2.1 s hr.1.1 hr.1.2, r1, r2⟩
theorem aSh.upd {H H2 : jH} (a : aSh H) {s : Int} {k l : Nat} (hs : shI s k l) (ec : ∀ q, q ≠ k → q ≠ l → 14 ≤ q → q ≤ 21 → H2 q = H q) (e57 : ∀ x, x ≠ s → H2 57 x = H 57 x) (e58 : ∀ x, x ≠ s → H2 58 x = H 58 x) (e59 : ∀ i, (i < 60 * s ∨ 60 * s + 60 ≤ i) → H2 59 i = H 59 i)
    (o1 : (H2 k 0 = 0 ∨ H2 k 0 = 1) ∧ (0 ≤ H2 k 1 ∧ H2 k 1 < 3) ∧ (0 ≤ H2 k 2 ∧ H2 k 2 ≤ 60)) (o2 : (-1 ≤ H2 57 s ∧ H2 57 s ≤ 2) ∧ (0 ≤ H2 58 s ∧ H2 58 s ≤ 60)) (o3 : H2 k 0 = 0 → H2 57 s = H2 k 1 ∧ H2 58 s = H2 k 2 ∧ ∀ i, 0 ≤ i → i < H2 k 2 → H2 59 (60 * s + i) = H2 l i) (o4 : H2 k 0 ≠ 0 → H2 57 s = -1) : aSh H2 := by
  have hr := hs.r
  refine ⟨fun k' l' hk => ?_, fun x x0 x1 => ?_, fun s' k' l' hs' => ?_⟩
  · by_cases e : k' = k
    · subst e; exact o1
    · have : k' ≠ l ∧ 14 ≤ k' ∧ k' ≤ 21 := by unfold jSh at hk; omega
      rw [ec k' e this.1 this.2.1 this.2.2]
      exact a.1 k' l' hk
  · by_cases e : x = s
    · subst e; exact o2
    · rw [e57 x e, e58 x e]; exact a.2.1 x x0 x1
  · have hr' := hs'.r
    by_cases e : s' = s
    · subst e
      have ek : k' = k := by omega
      have el : l' = l := by omega
      subst ek el
      exact ⟨o3, o4, o2.2⟩
    · have ek : k' ≠ k ∧ k' ≠ l ∧ l' ≠ k ∧ l' ≠ l := by omega
      obtain ⟨b1, b2, b3⟩ := a.2.2 s' k' l' hs'
      have hz := (aSh.at a hs').1.2.2
      rw [ec k' ek.1 ek.2.1 (by omega) (by omega), ec l' ek.2.2.1 ek.2.2.2 (by omega) (by omega), e57 s' e, e58 s' e]
      refine ⟨fun z => ?_, b2, b3⟩
      obtain ⟨d1, d2, d3⟩ := b1 z
      exact ⟨d1, d2, fun i i0 i1 => by rw [e59 _ (by omega)]; exact d3 i i0 i1⟩
theorem REL.sheet {H H2 : jH} (h : REL H) (ek : ∀ q, (q < 14 ∨ 21 < q) → q ≠ 57 → q ≠ 58 → q ≠ 59 → q ≠ 60 → H2 q = H q) (a : aSh H2) : REL H2 := by
  obtain ⟨a1, a2, a3, a4, a5, a6, a7, a8⟩ := h.parts
  have e0 : H2 0 = H 0 := ek 0 (by decide) (by decide) (by decide) (by decide) (by decide)
  have e56 : H2 56 = H 56 := ek 56 (by decide) (by decide) (by decide) (by decide) (by decide)
  exact REL.mk (a1.c (fun k hk => ek k (by omega) (by omega) (by omega) (by omega) (by omega)) (by rw [e56])) (a2.c (fun k hk => ek k (by omega) (by omega) (by omega) (by omega) (by omega))) (a3.c (by rw [e0]) (by rw [e56])) (a4.c (fun k hk => ek k (by omega) (by omega) (by omega) (by omega) (by omega)) (by rw [e56])) (a5.c (fun k hk => ek k (by omega) (by omega) (by omega) (by omega) (by omega)) (by rw [e0]) (by rw [e56])) (by unfold aLat; rw [e56, e0]; exact a6) a (cache_c a8 (fun k x y => ek k (by omega) (by omega) (by omega) (by omega) (by omega)) (fun j _ => by rw [e0]) (ek 31 (by decide) (by decide) (by decide) (by decide) (by decide)) (ek 32 (by decide) (by decide) (by decide) (by decide) (by decide)))
section S47
variable {E : jE} {H : jH}
theorem q_sheet {s f n : Int} (hs : -2147483648 ≤ s ∧ s ≤ 2147483647) (hf : -2147483648 ≤ f ∧ f ≤ 2147483647) (hn : -2147483648 ≤ n ∧ n ≤ 2147483647) (h : REL H) : jOk E mX4_sheet [jRF E 0, .int (jI s), .int (jI f), .int (jI n)] H (pI E mX5_sheet [jRF E 56, .int (jI s), .int (jI f), .int (jI n)]) := by
  have a7 := h.parts.2.2.2.2.2.2.1
  obtain ⟨k, l, hx, hi, hj⟩ := sh_ex s
  refine (s_sheet hx hs hf hn).moni (fun r H1 q => (m_sheet hs hf hn).moni (fun r2 H2 p => ?_))
  rcases q with ⟨q1, q2, rfl⟩ | ⟨q1, q2, q3, q4⟩ | ⟨q1, q2, q3, q4⟩
  · rcases p with ⟨p1, p2, rfl⟩ | ⟨p1, p2, p3, p4⟩ | ⟨p1, p2, p3, p4⟩
    · exact ⟨by omega, h⟩
    · exact absurd p1 q1
    · exact absurd p1 q1
  · rcases p with ⟨p1, p2, rfl⟩ | ⟨p1, p2, p3, p4⟩ | ⟨p1, p2, p3, p4⟩
    · exact absurd q1 p1
    · exact ⟨by omega, by rw [p4, q4]; exact h.lat 5⟩
    · omega
  · rcases p with ⟨p1, p2, rfl⟩ | ⟨p1, p2, p3, p4⟩ | ⟨p1, p2, p3, p4⟩
    · exact absurd q1 p1
    · omega
    · have his := hi (by omega)
      have hr := his.r
      have hkl : k ≠ l := by omega
      have ek : ∀ q, q ≠ k → q ≠ l → q ≠ 57 → q ≠ 58 → q ≠ 59 → H2 q = H q := fun q x1 x2 x3 x4 x5 => by rw [p4, jMr_o x5, jU_o x4, jU_o x3, q4, jFill_o x2, jU_o x1, jU_o x1, jU_o x1]
      have k0 : H2 k 0 = 0 := by rw [p4, jMr_k (by omega), jU_k (by omega), jU_k (by omega), q4, jFill_k hkl, jU_i (by decide), jU_i (by decide), jU_s]
      have k1 : H2 k 1 = f := by rw [p4, jMr_k (by omega), jU_k (by omega), jU_k (by omega), q4, jFill_k hkl, jU_i (by decide), jU_s]
      have k2 : H2 k 2 = n := by rw [p4, jMr_k (by omega), jU_k (by omega), jU_k (by omega), q4, jFill_k hkl, jU_s]
      have m7 : ∀ x, H2 57 x = if x = s then f else H 57 x := fun x => by
        rw [p4, jMr_k (by decide), jU_k (by decide)]
        by_cases z : x = s
        · rw [if_pos z, z, jU_s]
        · rw [if_neg z, jU_i z, q4, jFill_k (by omega), jU_k (by omega), jU_k (by omega), jU_k (by omega)]
      have m8 : ∀ x, H2 58 x = if x = s then n else H 58 x := fun x => by
        rw [p4, jMr_k (by decide)]
        by_cases z : x = s
        · rw [if_pos z, z, jU_s]
        · rw [if_neg z, jU_i z, jU_k (by decide), q4, jFill_k (by omega), jU_k (by omega), jU_k (by omega), jU_k (by omega)]
      refine ⟨by omega, h.sheet (fun q x1 x2 x3 x4 x5 => ek q (by omega) (by omega) x2 x3 x4) (a7.upd his (fun q x1 x2 x3 x4 => ek q x1 x2 (by omega) (by omega) (by omega)) (fun x z => by rw [m7, if_neg z]) (fun x z => by rw [m8, if_neg z]) (fun i z => ?_) ?_ ?_ (fun _ => ⟨by rw [m7, if_pos rfl, k1], by rw [m8, if_pos rfl, k2], fun i i0 i1 => ?_⟩) (fun z => absurd k0 z))⟩
      · rw [p4, jMr_n (by omega), jU_k (by decide), jU_k (by decide), q4, jFill_k (by omega), jU_k (by omega), jU_k (by omega), jU_k (by omega)]
      · rw [k0, k1, k2]; omega
      · rw [m7, m8, if_pos rfl, if_pos rfl]; omega
      · rw [k2] at i1
        rw [p4, jMr_i (by omega) (by omega), jMr_k (by omega), jU_k (by omega), jU_k (by omega), q4, jFill_i i0 (by omega)]
theorem q_lose {s : Int} (hs : -2147483648 ≤ s ∧ s ≤ 2147483647) (h : REL H) : jOk E mX4_lose [jRF E 0, .int (jI s)] H (pI E mX5_lose [jRF E 56, .int (jI s)]) := by
  have a7 := h.parts.2.2.2.2.2.2.1
  obtain ⟨k, l, hx, hi, hj⟩ := sh_ex s
  refine (s_lose hx hs).moni (fun r H1 q => (m_lose hs).moni (fun r2 H2 p => ?_))
  by_cases hok : 0 ≤ s ∧ s < 4
  rotate_left
  · rcases q with ⟨q1, q2, rfl⟩ | ⟨q1, q2, q3, q4⟩ | ⟨q1, q2, q3, q4⟩
    · rcases p with ⟨p1, p2, rfl⟩ | ⟨p1, p2, p3, p4⟩ | ⟨p1, p2, p3, p4⟩
      · exact ⟨by omega, h⟩
      · exact absurd p1 q1
      · exact absurd p1 q1
    · exact absurd q1 hok
    · exact absurd q1 hok
  have his := hi hok
  have hr := his.r
  obtain ⟨b1, b2, b3, b4⟩ := a7.at his
  rcases q with ⟨q1, q2, rfl⟩ | ⟨q1, q2, q3, q4⟩ | ⟨q1, q2, q3, q4⟩
  · exact absurd hok q1
  · have e57 : H1 57 = H 57 := by rw [q4, jU_o (by decide)]
    rw [e57, b4 q2] at p
    rcases p with ⟨p1, p2, rfl⟩ | ⟨p1, p2, p3, p4⟩ | ⟨p1, p2, p3, p4⟩
    · exact absurd hok p1
    · exact ⟨by omega, by rw [p4, q4]; exact h.lat 1⟩
    · omega
  · have e57 : H1 57 = H 57 := by rw [q4, jU_o (by omega)]
    have e58 : H1 58 = H 58 := by rw [q4, jU_o (by omega)]
    obtain ⟨d1, d2, d3⟩ := b3 q2
    rw [e57, e58, d1, d2] at p
    rcases p with ⟨p1, p2, rfl⟩ | ⟨p1, p2, p3, p4⟩ | ⟨p1, p2, p3, p4⟩
    · exact absurd hok p1
    · omega
    · have ek : ∀ q, q ≠ k → q ≠ 57 → H2 q = H q := fun q x1 x2 => by rw [p4, jU_o x2, q4, jU_o x1]
      have k0 : H2 k 0 = 1 := by rw [p4, jU_k (by omega), q4, jU_s]
      have k1 : ∀ j, j ≠ 0 → H2 k j = H k j := fun j hj => by rw [p4, jU_k (by omega), q4, jU_i hj]
      refine ⟨by omega, h.sheet (fun q x1 x2 x3 x4 x5 => ek q (by omega) x2) (a7.upd his (fun q x1 x2 x3 x4 => ek q x1 (by omega)) (fun x z => by rw [p4, jU_i z, e57]) (fun x z => by rw [ek 58 (by omega) (by decide)]) (fun i z => by rw [ek 59 (by omega) (by decide)]) ?_ ?_ (fun z => by omega) (fun _ => by rw [p4, jU_s]))⟩
      · rw [k0, k1 1 (by decide), k1 2 (by decide)]; omega
      · rw [ek 58 (by omega) (by decide), p4, jU_s]; omega
theorem q_lay {s f i v : Int} (hs : -2147483648 ≤ s ∧ s ≤ 2147483647) (hf : -2147483648 ≤ f ∧ f ≤ 2147483647) (hi : -2147483648 ≤ i ∧ i ≤ 2147483647) (hv : -2147483648 ≤ v ∧ v ≤ 2147483647) (h : REL H) : jOk E mX4_lay [jRF E 0, .int (jI s), .int (jI f), .int (jI i), .int (jI v)] H (pI E mX5_lay [jRF E 56, .int (jI s), .int (jI f), .int (jI i), .int (jI v)]) := by
  have a7 := h.parts.2.2.2.2.2.2.1
  obtain ⟨k, l, hx, hki, hj⟩ := sh_ex s
  refine (s_lay hx hs hf hi hv (a7.1 k l hj).2.2).moni (fun r H1 q => ?_)
  have e5 : (H1 57 = H 57 ∧ H1 58 = H 58) ∧ (0 ≤ s ∧ s < 4 → H1 = H ∨ True) := by
    have hkl : 14 ≤ k ∧ k ≤ 20 ∧ l = k + 1 := by unfold jSh at hj; omega
    refine ⟨?_, fun _ => Or.inr trivial⟩
    rcases q with ⟨_, _, rfl⟩ | ⟨_, _, _, e⟩ | ⟨_, _, _, _, e⟩ | ⟨_, _, _, _, _, e⟩ | ⟨_, _, _, _, e⟩
    · exact ⟨rfl, rfl⟩
    · rw [e, jU_o (by decide), jU_o (by decide)]; exact ⟨rfl, rfl⟩
    · rw [e, jU_o (by decide), jU_o (by decide)]; exact ⟨rfl, rfl⟩
    · rw [e, jU_o (by decide), jU_o (by decide)]; exact ⟨rfl, rfl⟩
    · rw [e, jU_o (by omega), jU_o (by omega)]; exact ⟨rfl, rfl⟩
  obtain ⟨⟨e57, e58⟩, _⟩ := e5
  refine (m_lay hs hf hi hv (by unfold mSh; rw [e57, e58]; exact a7.2.1)).moni (fun r2 H2 p => ?_)
  rw [e57, e58] at p
  by_cases hok : 0 ≤ s ∧ s < 4
  rotate_left
  · rcases q with ⟨q1, q2, rfl⟩ | ⟨q1, _⟩ | ⟨q1, _⟩ | ⟨q1, _⟩ | ⟨q1, _⟩
    · rcases p with ⟨p1, p2, rfl⟩ | ⟨p1, _⟩ | ⟨p1, _⟩ | ⟨p1, _⟩ | ⟨p1, _⟩
      · exact ⟨by omega, h⟩
      all_goals omega
    all_goals omega
  have his := hki hok
  have hr := his.r
  obtain ⟨b1, b2, b3, b4⟩ := a7.at his
  rcases q with ⟨q1, q2, q3⟩ | ⟨q1, q2, q3, q4⟩ | ⟨q1, q2, q3, q4, q5⟩ | ⟨q1, q2, q3, q4, q5, q6⟩ | ⟨q1, q2, q3, q4, q5⟩
  · rcases p with ⟨p1, p2, p3⟩ | ⟨p1, _⟩ | ⟨p1, _⟩ | ⟨p1, _⟩ | ⟨p1, _⟩
    · exact ⟨by omega, by rw [p3, q3]; exact h⟩
    all_goals omega
  · rw [b4 q2] at p
    rcases p with ⟨p1, p2, p3⟩ | ⟨p1, p2, p3, p4⟩ | ⟨p1, p2, _⟩ | ⟨p1, p2, _⟩ | ⟨p1, p2, _⟩
    · omega
    · exact ⟨by omega, by rw [p4, q4]; exact h.lat 1⟩
    all_goals omega
  · obtain ⟨d1, d2, d3⟩ := b3 q2
    rw [d1, d2] at p
    rcases p with ⟨p1, p2, p3⟩ | ⟨p1, p2, p3, p4⟩ | ⟨p1, p2, p3, p4, p5⟩ | ⟨p1, p2, p3, _⟩ | ⟨p1, p2, _⟩
    · omega
    · omega
    · exact ⟨by omega, by rw [p5, q5]; exact h.lat 3⟩
    all_goals omega
  · obtain ⟨d1, d2, d3⟩ := b3 q2
    rw [d1, d2] at p
    rcases p with ⟨p1, p2, p3⟩ | ⟨p1, p2, p3, p4⟩ | ⟨p1, p2, p3, p4, p5⟩ | ⟨p1, p2, p3, p4, p5, p6⟩ | ⟨p1, p2, p3, _⟩
    · omega
    · omega
    · omega
    · exact ⟨by omega, by rw [p6, q6]; exact h.lat 2⟩
    · exact absurd p3 q4
  · obtain ⟨d1, d2, d3⟩ := b3 q2.1
    rw [d1, d2] at p
    rcases p with ⟨p1, p2, p3⟩ | ⟨p1, p2, p3, p4⟩ | ⟨p1, p2, p3, p4, p5⟩ | ⟨p1, p2, p3, p4, p5, p6⟩ | ⟨p1, p2, p3, p4, p5⟩
    · omega
    · omega
    · omega
    · exact absurd q3 p4
    · have ek : ∀ q, q ≠ l → q ≠ 59 → H2 q = H q := fun q x1 x2 => by rw [p5, jU_o x2, q5, jU_o x1]
      refine ⟨by omega, h.sheet (fun q x1 x2 x3 x4 x5 => ek q (by omega) x4) (a7.upd his (fun q x1 x2 x3 x4 => ek q x2 (by omega)) (fun x z => by rw [ek 57 (by omega) (by decide)]) (fun x z => by rw [ek 58 (by omega) (by decide)]) (fun x z => by rw [p5, jU_i (by omega), q5, jU_k (by omega)]) (by rw [ek k (by omega) (by omega)]; exact b1) (by rw [ek 57 (by omega) (by decide), ek 58 (by omega) (by decide)]; exact b2) (fun z => ?_) (fun z => ?_))⟩
      · rw [ek k (by omega) (by omega), ek 57 (by omega) (by decide), ek 58 (by omega) (by decide)]
        refine ⟨d1, d2, fun x x0 x1 => ?_⟩
        rw [p5]
        by_cases e : x = i
        · rw [e, jU_s, jU_k (by omega), q5, jU_s, q2.2]
        · rw [jU_i (by omega), jU_k (by omega), q5, jU_k (by omega), jU_i e]
          exact d3 x x0 x1
      · rw [ek k (by omega) (by omega)] at z
        exact absurd q2.1 z
theorem q_get {s f i : Int} (hs : -2147483648 ≤ s ∧ s ≤ 2147483647) (hf : -2147483648 ≤ f ∧ f ≤ 2147483647) (hi : -2147483648 ≤ i ∧ i ≤ 2147483647) (h : REL H) : jOk E mX4_get [jRF E 0, .int (jI s), .int (jI f), .int (jI i)] H (pI E mX5_get [jRF E 56, .int (jI s), .int (jI f), .int (jI i)]) := by
  have a7 := h.parts.2.2.2.2.2.2.1
  obtain ⟨k, l, hx, hki, hj⟩ := sh_ex s
  refine (s_get hx hs hf hi (a7.1 k l hj).2.2).moni (fun r H1 q => ?_)
  have e5 : H1 57 = H 57 ∧ H1 58 = H 58 := by
    rcases q with ⟨_, _, rfl⟩ | ⟨_, _, _, e⟩ | ⟨_, _, _, _, e⟩ | ⟨_, _, _, _, _, e⟩ | ⟨_, _, _, _, e⟩
    · exact ⟨rfl, rfl⟩
    · rw [e, jU_o (by decide), jU_o (by decide)]; exact ⟨rfl, rfl⟩
    · rw [e, jU_o (by decide), jU_o (by decide)]; exact ⟨rfl, rfl⟩
    · rw [e, jU_o (by decide), jU_o (by decide)]; exact ⟨rfl, rfl⟩
    · rw [e]; exact ⟨rfl, rfl⟩
  obtain ⟨e57, e58⟩ := e5
  refine (m_get hs hf hi (by unfold mSh; rw [e57, e58]; exact a7.2.1)).moni (fun r2 H2 p => ?_)
  rw [e57, e58] at p
  by_cases hok : 0 ≤ s ∧ s < 4
  rotate_left
  · rcases q with ⟨q1, q2, rfl⟩ | ⟨q1, _⟩ | ⟨q1, _⟩ | ⟨q1, _⟩ | ⟨q1, _⟩
    · rcases p with ⟨p1, p2, rfl⟩ | ⟨p1, _⟩ | ⟨p1, _⟩ | ⟨p1, _⟩ | ⟨p1, _⟩
      · exact ⟨by omega, h⟩
      all_goals omega
    all_goals omega
  have his := hki hok
  have hr := his.r
  obtain ⟨b1, b2, b3, b4⟩ := a7.at his
  rcases q with ⟨q1, q2, q3⟩ | ⟨q1, q2, q3, q4⟩ | ⟨q1, q2, q3, q4, q5⟩ | ⟨q1, q2, q3, q4, q5, q6⟩ | ⟨q1, q2, q3, q4, q5⟩
  · rcases p with ⟨p1, p2, p3⟩ | ⟨p1, _⟩ | ⟨p1, _⟩ | ⟨p1, _⟩ | ⟨p1, _⟩
    · exact ⟨by omega, by rw [p3, q3]; exact h⟩
    all_goals omega
  · rw [b4 q2] at p
    rcases p with ⟨p1, p2, p3⟩ | ⟨p1, p2, p3, p4⟩ | ⟨p1, p2, _⟩ | ⟨p1, p2, _⟩ | ⟨p1, p2, _⟩
    · omega
    · exact ⟨by omega, by rw [p4, q4]; exact h.lat 1⟩
    all_goals omega
  · obtain ⟨d1, d2, d3⟩ := b3 q2
    rw [d1, d2] at p
    rcases p with ⟨p1, p2, p3⟩ | ⟨p1, p2, p3, p4⟩ | ⟨p1, p2, p3, p4, p5⟩ | ⟨p1, p2, p3, _⟩ | ⟨p1, p2, _⟩
    · omega
    · omega
    · exact ⟨by omega, by rw [p5, q5]; exact h.lat 3⟩
    all_goals omega
  · obtain ⟨d1, d2, d3⟩ := b3 q2
    rw [d1, d2] at p
    rcases p with ⟨p1, p2, p3⟩ | ⟨p1, p2, p3, p4⟩ | ⟨p1, p2, p3, p4, p5⟩ | ⟨p1, p2, p3, p4, p5, p6⟩ | ⟨p1, p2, p3, _⟩
    · omega
    · omega
    · omega
    · exact ⟨by omega, by rw [p6, q6]; exact h.lat 2⟩
    · exact absurd p3 q4
  · obtain ⟨d1, d2, d3⟩ := b3 q2.1
    rw [d1, d2] at p
    rcases p with ⟨p1, p2, p3⟩ | ⟨p1, p2, p3, p4⟩ | ⟨p1, p2, p3, p4, p5⟩ | ⟨p1, p2, p3, p4, p5, p6⟩ | ⟨p1, p2, p3, p4, p5⟩
    · omega
    · omega
    · omega
    · exact absurd q3 p4
    · subst q5
      refine ⟨?_, by rw [p5]; exact h⟩
      rw [p4, q4]
      exact d3 i q3.1 q3.2
end S47
