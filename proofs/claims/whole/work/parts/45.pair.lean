/-! ===== class and reference side by side: the questions ===== -/
def REL (H : jH) : Prop := RI H ∧ rSheet H
theorem CQ.rel {H H' : jH} (q : CQ H H') (h : REL H) : REL H' := by
  obtain ⟨⟨_, c1, c2, c3, c4, c5, c6, c7⟩, c8⟩ := h
  refine ⟨⟨q.2.2, ?_, ?_, ?_, ?_, ?_, ?_, ?_⟩, fun s k l hs => ?_⟩
  · unfold rText; rw [q.1 56 (by decide) (by decide), q.1 1 (by decide) (by decide), q.1 61 (by decide) (by decide), q.1 2 (by decide) (by decide)]; exact c1
  · unfold rRow; rw [q.1 63 (by decide) (by decide), q.1 6 (by decide) (by decide)]; exact c2
  · rw [q.1 56 (by decide) (by decide), q.2.1 2 (by decide)]; exact c3
  · unfold rTold; rw [q.1 56 (by decide) (by decide), q.1 7 (by decide) (by decide), q.1 64 (by decide) (by decide), q.1 8 (by decide) (by decide), q.1 9 (by decide) (by decide), q.1 10 (by decide) (by decide)]; exact c4
  · unfold rHeard; rw [q.1 56 (by decide) (by decide), q.2.1 6 (by decide), q.1 76 (by decide) (by decide), q.1 11 (by decide) (by decide), q.1 12 (by decide) (by decide)]; exact c5
  · rw [q.1 56 (by decide) (by decide), q.2.1 8 (by decide)]; exact c6
  · unfold mSh; rw [q.1 57 (by decide) (by decide), q.1 58 (by decide) (by decide)]; exact c7
  · rw [q.1 k (by unfold shI at hs; omega) (by unfold shI at hs; omega), q.1 l (by unfold shI at hs; omega) (by unfold shI at hs; omega), q.1 57 (by decide) (by decide), q.1 58 (by decide) (by decide), q.1 59 (by decide) (by decide)]
    exact c8 s k l hs
theorem MZ.rel {H H' : jH} (q : MZ H H') (h : REL H) : REL H' := ⟨q.ri h.1, q.sh h.2⟩
def pI (E : jE) (me : jM) (vs : List Value) : Option Value → jH → Prop := jQi fun r H1 => jOk E me vs H1 (jQi fun r2 H2 => r2 = r ∧ REL H2)
def pL' (E : jE) (me : jM) (vs : List Value) : Option Value → jH → Prop := jQl fun r H1 => jOk E me vs H1 (jQl fun r2 H2 => r2 = r ∧ REL H2)
theorem pairI {E : jE} {H : jH} {me1 me2 : jM} {vs1 vs2 : List Value} (an : jH → Int → Prop) (one : ∀ {H r r2}, an H r → an H r2 → r = r2) (same : ∀ {H H'}, sameC H H' → an H' = an H) (c : jOk E me1 vs1 H (jQi fun r H' => CQ H H' ∧ an H r)) (m : ∀ {H}, RI H → jOk E me2 vs2 H (jQi fun r H' => MZ H H' ∧ FD H' ∧ an H r)) (h : REL H) : jOk E me1 vs1 H (pI E me2 vs2) := c.moni (fun r H1 q => by
  have h1 := q.1.rel h
  refine (m h1.1).moni (fun r2 H2 q2 => ⟨?_, q2.1.rel h1⟩)
  have := q2.2.2
  rw [same q.1.same] at this
  exact one this q.2)
theorem pairL {E : jE} {H : jH} {me1 me2 : jM} {vs1 vs2 : List Value} (an : jH → Int → Prop) (one : ∀ {H r r2}, an H r → an H r2 → r = r2) (same : ∀ {H H'}, sameC H H' → an H' = an H) (c : jOk E me1 vs1 H (jQl fun r H' => CQ H H' ∧ an H r)) (m : ∀ {H}, RI H → jOk E me2 vs2 H (jQl fun r H' => MZ H H' ∧ FD H' ∧ an H r)) (h : REL H) : jOk E me1 vs1 H (pL' E me2 vs2) := c.monl (fun r H1 q => by
  have h1 := q.1.rel h
  refine (m h1.1).monl (fun r2 H2 q2 => ⟨?_, q2.1.rel h1⟩)
  have := q2.2.2
  rw [same q.1.same] at this
  exact one this q.2)
theorem dgBx_c {H H' : jH} (h : sameC H H') (x : Int) : ∀ n, dgBx H' x n = dgBx H x n
  | 0 => rfl
  | n + 1 => by rw [dgBx, dgBx, dgBx_c h x n, h.dgb]
theorem dgSh_c {H H' : jH} (h : sameC H H') (x : Int) : ∀ n, dgSh H' x n = dgSh H x n
  | 0 => rfl
  | n + 1 => by rw [dgSh, dgSh, dgSh_c h x n, h.shelf]
theorem sameC.dig {H H' : jH} (h : sameC H H') : dg3 H' = dg3 H := by
  unfold dg3
  rw [dgSh_c h, h.empty, h.turn, h.night]
  unfold dg2
  rw [h.quiet, h.loud, h.news, h.hush]
  unfold dg1
  rw [dgBx_c h, h.cfg, h.count, h.1 1 (by decide) (by decide), h.1 6 (by decide) (by decide)]
section S45
variable {E : jE} {H : jH}
theorem q_step {t w : Int} (ht : -2147483648 ≤ t ∧ t ≤ 2147483647) (hw : -2147483648 ≤ w ∧ w ≤ 2147483647) (h : REL H) : jOk E mX4_step [jRF E 0, .int (jI t), .int (jI w)] H (pI E mX5_step [jRF E 56, .int (jI t), .int (jI w)]) := pairI (fun H r => anStep H t w r) anStep_one (fun s => by rw [s.step]) (s_step ht hw h.1.1) (fun h => m_step ht hw h) h
theorem q_spring {t b : Int} (ht : -2147483648 ≤ t ∧ t ≤ 2147483647) (hw : -2147483648 ≤ b ∧ b ≤ 2147483647) (h : REL H) : jOk E mX4_spring [jRF E 0, .int (jI t), .int (jI b)] H (pI E mX5_spring [jRF E 56, .int (jI t), .int (jI b)]) := pairI (fun H r => anSpring H t b r) anSpring_one (fun s => by rw [s.spring]) (s_spring ht hw h.1.1) (fun h => m_spring ht hw h) h
theorem q_quiet (h : REL H) : jOk E mX4_quiet [jRF E 0] H (pI E mX5_quiet [jRF E 56]) := pairI (fun H r => anQuiet H r) anQuiet_one (fun s => by rw [s.quiet]) (s_quiet h.1.1) (fun h => m_quiet h) h
theorem q_loudest {w : Int} (hw : -2147483648 ≤ w ∧ w ≤ 2147483647) (h : REL H) : jOk E mX4_loudest [jRF E 0, .int (jI w)] H (pI E mX5_loudest [jRF E 56, .int (jI w)]) := pairI (fun H r => anLoud H w r) anLoud_one (fun s => by rw [s.loud]) (s_loudest hw h.1.1) (fun h => m_loudest hw h) h
theorem q_first {b : Int} (hb : -2147483648 ≤ b ∧ b ≤ 2147483647) (h : REL H) : jOk E mX4_first [jRF E 0, .int (jI b)] H (pI E mX5_first [jRF E 56, .int (jI b)]) := pairI (fun H r => anFirst H b r) anFirst_one (fun s => by rw [s.first]) (s_first hb h.1.1) (fun h => m_first hb h) h
theorem q_together {a b : Int} (ha : -2147483648 ≤ a ∧ a ≤ 2147483647) (hb : -2147483648 ≤ b ∧ b ≤ 2147483647) (h : REL H) : jOk E mX4_together [jRF E 0, .int (jI a), .int (jI b)] H (pI E mX5_together [jRF E 56, .int (jI a), .int (jI b)]) := pairI (fun H r => anTog H a b r) anTog_one (fun s => by rw [s.tog]) (s_together ha hb h.1.1) (fun h => m_together ha hb h) h
theorem q_news {a t b : Int} (ha : -2147483648 ≤ a ∧ a ≤ 2147483647) (ht : -2147483648 ≤ t ∧ t ≤ 2147483647) (hb : -2147483648 ≤ b ∧ b ≤ 2147483647) (h : REL H) : jOk E mX4_news [jRF E 0, .int (jI a), .int (jI t), .int (jI b)] H (pI E mX5_news [jRF E 56, .int (jI a), .int (jI t), .int (jI b)]) := pairI (fun H r => anNews H a t b r) anNews_one (fun s => by rw [s.news]) (s_news ha ht hb h.1.1) (fun h => m_news ha ht hb h) h
theorem q_hears {b t : Int} (hb : -2147483648 ≤ b ∧ b ≤ 2147483647) (ht : -2147483648 ≤ t ∧ t ≤ 2147483647) (h : REL H) : jOk E mX4_hears [jRF E 0, .int (jI b), .int (jI t)] H (pI E mX5_hears [jRF E 56, .int (jI b), .int (jI t)]) := pairI (fun H r => anHears H b t r) anHears_one (fun s => by rw [s.hears]) (s_hears hb ht h.1.1) (fun h => m_hears hb ht h) h
theorem q_hush {t w : Int} (ht : -2147483648 ≤ t ∧ t ≤ 2147483647) (hw : -2147483648 ≤ w ∧ w ≤ 2147483647) (h : REL H) : jOk E mX4_hush [jRF E 0, .int (jI t), .int (jI w)] H (pI E mX5_hush [jRF E 56, .int (jI t), .int (jI w)]) := pairI (fun H r => anHush H t w r) anHush_one (fun s => by rw [s.hush]) (s_hush ht hw h.1.1) (fun h => m_hush ht hw h) h
theorem q_shelf {n L i : Int} (hn : -2147483648 ≤ n ∧ n ≤ 2147483647) (hL : -2147483648 ≤ L ∧ L ≤ 2147483647) (hi : -2147483648 ≤ i ∧ i ≤ 2147483647) (h : REL H) : jOk E mX4_shelf [jRF E 0, .int (jI n), .int (jI L), .int (jI i)] H (pI E mX5_shelf [jRF E 56, .int (jI n), .int (jI L), .int (jI i)]) := pairI (fun H r => anShelf H n L i r) anShelf_one (fun s => by rw [s.shelf]) (s_shelf hn hL hi h.1.1) (fun h => m_shelf hn hL hi h) h
theorem q_learn {b i : Int} (hb : -2147483648 ≤ b ∧ b ≤ 2147483647) (hi : -2147483648 ≤ i ∧ i ≤ 2147483647) (h : REL H) : jOk E mX4_learn [jRF E 0, .int (jI b), .int (jI i)] H (pI E mX5_learn [jRF E 56, .int (jI b), .int (jI i)]) := pairI (fun H r => anLearn H b i r) anLearn_one (fun s => by rw [s.learn]) (s_learn hb hi h.1.1) (fun h => m_learn hb hi h) h
theorem q_empty (h : REL H) : jOk E mX4_empty [jRF E 0] H (pI E mX5_empty [jRF E 56]) := pairI (fun H r => anEmpty H r) anEmpty_one (fun s => by rw [s.empty]) (s_empty h.1.1) (fun h => m_empty h) h
theorem q_turn {b s : Int} (hb : -2147483648 ≤ b ∧ b ≤ 2147483647) (hs : -2147483648 ≤ s ∧ s ≤ 2147483647) (h : REL H) : jOk E mX4_turn [jRF E 0, .int (jI b), .int (jI s)] H (pI E mX5_turn [jRF E 56, .int (jI b), .int (jI s)]) := pairI (fun H r => anTurn H b s r) anTurn_one (fun s => by rw [s.turn]) (s_turn hb hs h.1.1) (fun h => m_turn hb hs h) h
theorem q_night {x t w : Int} (ht : -2147483648 ≤ t ∧ t ≤ 2147483647) (hw : -2147483648 ≤ w ∧ w ≤ 2147483647) (h : REL H) : jOk E mX4_night [jRF E 0, .int (jI x), .int (jI t), .int (jI w)] H (pI E mX5_night [jRF E 56, .int (jI x), .int (jI t), .int (jI w)]) := pairI (fun H r => anNight H x t w r) anNight_one (fun s => by rw [s.night]) (s_night ht hw h.1.1) (fun h => m_night ht hw h) h
theorem q_count {w : Int} (hw : -2147483648 ≤ w ∧ w ≤ 2147483647) (h : REL H) : jOk E mX4_count [jRF E 0, .int (jI w)] H (pI E mX5_count [jRF E 56, .int (jI w)]) := pairI (fun H r => r = fCount H w) (fun a b => Eq.trans a b.symm) (fun s => by rw [s.count]) (s_count hw h.1.1) (fun h => m_count hw h) h
theorem q_looks {c b t w : Int} (hc : -2147483648 ≤ c ∧ c ≤ 2147483647) (hb : -2147483648 ≤ b ∧ b ≤ 2147483647) (ht : -2147483648 ≤ t ∧ t ≤ 2147483647) (hw : -2147483648 ≤ w ∧ w ≤ 2147483647) (h : REL H) : jOk E mX4_looks [jRF E 0, .int (jI c), .int (jI b), .int (jI t), .int (jI w)] H (pL' E mX5_looks [jRF E 56, .int (jI c), .int (jI b), .int (jI t), .int (jI w)]) := pairL (fun H r => anLooks H c b t w r) anLooks_one (fun s => by rw [s.looks]) (s_looks hc hb ht hw h.1.1) (fun h => m_looks hc hb ht hw h) h
theorem q_digest (h : REL H) : jOk E mX4_digest [jRF E 0] H (pL' E mX5_digest [jRF E 56]) := pairL (fun H r => r = dg3 H) (fun a b => Eq.trans a b.symm) (fun s => by rw [s.dig]) (s_digest h.1.1) (fun h => m_digest h) h
theorem q_fault (h : REL H) : jOk E mX4_fault [jRF E 0] H (pI E mX5_fault [jRF E 56]) := s_fault.moni (fun r H1 q => by
  obtain ⟨e, rfl⟩ := q
  exact (m_fault h.1).moni (fun r2 H2 q2 => ⟨q2.2.trans e.symm, q2.1.rel h⟩))
theorem q_box {b w : Int} (hb : -2147483648 ≤ b ∧ b ≤ 2147483647) (hw : -2147483648 ≤ w ∧ w ≤ 2147483647) (h : REL H) : jOk E mX4_box [jRF E 0, .int (jI b), .int (jI w)] H (pI E mX5_box [jRF E 56, .int (jI b), .int (jI w)]) := (s_box hb hw h.1.n).moni (fun r H1 q => by
  obtain ⟨rfl, e⟩ := q
  exact (m_box hb hw h.1).moni (fun r2 H2 q2 => ⟨anBox_one q2.2 e, q2.1.rel h⟩))
theorem q_place {x : Int} (hx : -2147483648 ≤ x ∧ x ≤ 2147483647) (h : REL H) : jOk E mX4_place [jRF E 0, .int (jI x)] H (pI E mX5_place [jRF E 56, .int (jI x)]) := (s_place hx).moni (fun r H1 q => by
  obtain ⟨rfl, e⟩ := q
  refine (m_place hx).moni (fun r2 H2 q2 => ?_)
  obtain ⟨rfl, e2⟩ := q2
  refine ⟨?_, h⟩
  have hr := h.1.2.2.1 x
  rcases e with ⟨a, b, c⟩ | ⟨a, c⟩ <;> rcases e2 with ⟨a2, b2, c2⟩ | ⟨a2, c2⟩
  · rw [c, c2]; exact hr a b
  · omega
  · omega
  · omega)
end S45
