/-! ===== configurations that play alike; the class's invariant ===== -/
def kEq (K K' : jH) : Prop := K 0 0 = K' 0 0 ∧ (∀ b, 0 ≤ b → b < K 0 0 → bt (K 0 5) b = bt (K' 0 5) b ∧ K 1 b = K' 1 b ∧ (K 1 b ≠ 4 → K 2 b = K' 2 b) ∧ K 3 b = K' 3 b ∧ K 4 b = K' 4 b) ∧
  (∀ t, 0 ≤ t → t < 60 → ∀ b, 0 ≤ b → b < K 0 0 → (K 1 b = 0 → bt (K 6 t) b = bt (K' 6 t) b) ∧ (K 1 b = 2 → bt (K 7 t) b = bt (K' 7 t) b) ∧ bt (K 8 t) b = bt (K' 8 t) b)
theorem kEq.refl (K : jH) : kEq K K := ⟨rfl, fun _ _ _ => ⟨rfl, rfl, fun _ => rfl, rfl, rfl⟩, fun _ _ _ _ _ _ => ⟨fun _ => rfl, fun _ => rfl, rfl⟩⟩
theorem kEq.symm {K K' : jH} (h : kEq K K') : kEq K' K := by
  obtain ⟨h1, h2, h3⟩ := h
  refine ⟨h1.symm, fun b b0 b1 => ?_, fun t t0 t1 b b0 b1 => ?_⟩
  · obtain ⟨a1, a2, a3, a4, a5⟩ := h2 b b0 (by omega)
    exact ⟨a1.symm, a2.symm, fun q => (a3 (by rw [a2]; exact q)).symm, a4.symm, a5.symm⟩
  · obtain ⟨a1, a2, a3⟩ := h3 t t0 t1 b b0 (by omega)
    obtain ⟨_, c2, _⟩ := h2 b b0 (by omega)
    exact ⟨fun q => (a1 (by rw [c2]; exact q)).symm, fun q => (a2 (by rw [c2]; exact q)).symm, a3.symm⟩
theorem kEq.trans {K K' K2 : jH} (h : kEq K K') (g : kEq K' K2) : kEq K K2 := by
  obtain ⟨h1, h2, h3⟩ := h
  obtain ⟨g1, g2, g3⟩ := g
  refine ⟨h1.trans g1, fun b b0 b1 => ?_, fun t t0 t1 b b0 b1 => ?_⟩
  · obtain ⟨a1, a2, a3, a4, a5⟩ := h2 b b0 b1
    obtain ⟨c1, c2, c3, c4, c5⟩ := g2 b b0 (by omega)
    exact ⟨a1.trans c1, a2.trans c2, fun q => (a3 q).trans (c3 (by rw [← a2]; exact q)), a4.trans c4, a5.trans c5⟩
  · obtain ⟨a1, a2, a3⟩ := h3 t t0 t1 b b0 b1
    obtain ⟨c1, c2, c3⟩ := g3 t t0 t1 b b0 (by omega)
    obtain ⟨_, e2, _⟩ := h2 b b0 b1
    exact ⟨fun q => (a1 q).trans (c1 (by rw [← e2]; exact q)), fun q => (a2 q).trans (c2 (by rw [← e2]; exact q)), a3.trans c3⟩
theorem pS_cong {K K' : jH} (h : kEq K K') (hn : 0 ≤ K 0 0 ∧ K 0 0 ≤ 9) : ∀ t : Nat, t ≤ 60 → (pS K t).1 = (pS K' t).1 ∧ (pS K t).2.1 = (pS K' t).2.1 ∧ (∀ b, 0 ≤ b → b < K 0 0 → (pS K t).2.2.1 b = (pS K' t).2.2.1 b ∧ (K 1 b = 0 → (pS K t).2.2.2.1 b = (pS K' t).2.2.2.1 b) ∧ (K 1 b = 2 → (pS K t).2.2.2.2 b = (pS K' t).2.2.2.2 b))
  | 0, _ => ⟨rfl, rfl, fun b b0 b1 => ⟨(h.2.1 b b0 b1).2.2.2.1, fun _ => rfl, fun _ => rfl⟩⟩
  | t + 1, ht => by
    obtain ⟨hU, hO, hB⟩ := pS_cong h hn t (by omega)
    obtain ⟨h1, h2, h3⟩ := h
    have t0 : (0 : Int) ≤ (t : Int) := by omega
    have t1 : (t : Int) < 60 := by omega
    have hop : ∀ b, 0 ≤ b → b < K 0 0 → pOp K t (pS K t) b = pOp K' t (pS K' t) b ∧ (K 1 b = 0 → pTu K t (pS K t) b = pTu K' t (pS K' t) b) ∧ (K 1 b = 2 → pAl K t (pS K t) b = pAl K' t (pS K' t) b) := by
      intro b b0 b1
      obtain ⟨a1, a2, a3, a4, a5⟩ := h2 b b0 b1
      obtain ⟨c1, c2, c3⟩ := h3 t t0 t1 b b0 b1
      obtain ⟨d1, d2, d3⟩ := hB b b0 b1
      have eT : K 1 b = 0 → pTu K t (pS K t) b = pTu K' t (pS K' t) b := fun q => by unfold pTu; rw [hU, c1 q, a1, d2 q]
      have eA : K 1 b = 2 → pAl K t (pS K t) b = pAl K' t (pS K' t) b := fun q => by unfold pAl; rw [hU, c2 q, d3 q]
      refine ⟨?_, eT, eA⟩
      have eL : pLw K t (pS K t) b = pLw K' t (pS K' t) b := by
        unfold pLw
        rw [← a2]
        by_cases q0 : K 1 b = 0
        · rw [if_pos q0, if_pos q0, c1 q0, eT q0, a3 (by omega)]
        · rw [if_neg q0, if_neg q0]
          by_cases q1 : K 1 b = 1
          · rw [if_pos q1, if_pos q1]
            unfold pNr
            rw [← h1]
            refine anyI_cong (fun c c0 c1 => ?_)
            obtain ⟨_, _, _, _, f5⟩ := h2 c c0 c1
            rw [hO, a3 (by omega), a5, f5]
          · rw [if_neg q1, if_neg q1]
            by_cases q2 : K 1 b = 2
            · rw [if_pos q2, if_pos q2, eA q2, a3 (by omega)]
            · rw [if_neg q2, if_neg q2]
              by_cases q3 : K 1 b = 3
              · rw [if_pos q3, if_pos q3, hU, a3 (by omega)]
              · rw [if_neg q3, if_neg q3]
      unfold pOp
      rw [hU, a1, d1, eL]
    have eO : mkI (pOp K t (pS K t)) (K 0 0) = mkI (pOp K' t (pS K' t)) (K' 0 0) := by
      rw [← h1]
      exact mkI_cong (fun b b0 b1 => (hop b b0 b1).1)
    refine ⟨?_, eO, fun b b0 b1 => ?_⟩
    · have r1 := pS_U hn (t + 1)
      have hn' : 0 ≤ K' 0 0 ∧ K' 0 0 ≤ 9 := by omega
      have r2 := pS_U hn' (t + 1)
      apply bt_ext (by omega) (by omega)
      intro b b0 b1
      by_cases hb : b < K 0 0
      · rw [pS_u1 hn t b0 hb, pS_u1 hn' t b0 (by omega), hU, (hop b b0 hb).1, (h3 t t0 t1 b b0 hb).2.2]
      · rw [(pS_hi hn (t + 1) b (by omega) b1).1, (pS_hi hn' (t + 1) b (by omega) b1).1]
    · obtain ⟨o1, o2, o3⟩ := hop b b0 b1
      obtain ⟨d1, d2, d3⟩ := hB b b0 b1
      refine ⟨?_, fun q => ?_, fun q => ?_⟩
      · show (if pOp K t (pS K t) b then _ else _) = (if pOp K' t (pS K' t) b then _ else _)
        rw [o1, d1]
      · show (if pOp K t (pS K t) b then _ else _) = (if pOp K' t (pS K' t) b then _ else _)
        rw [o1, o2 q]
      · show (if pOp K t (pS K t) b then _ else _) = (if pOp K' t (pS K' t) b then _ else _)
        rw [o1, o3 q]
/-- who opens, who is up, what is left behind step t -/
def pO (K : jH) (t : Int) : Int := (pS K (t.toNat + 1)).2.1
def pU (K : jH) (t : Int) : Int := (pS K (t.toNat + 1)).1
def pL (K : jH) (t b : Int) : Int := (pS K (t.toNat + 1)).2.2.1 b
theorem pO_cong {K K' : jH} (h : kEq K K') (hn : 0 ≤ K 0 0 ∧ K 0 0 ≤ 9) {t : Int} (t1 : t < 60) : pO K t = pO K' t := (pS_cong h hn _ (by omega)).2.1
theorem pU_cong {K K' : jH} (h : kEq K K') (hn : 0 ≤ K 0 0 ∧ K 0 0 ≤ 9) {t : Int} (t1 : t < 60) : pU K t = pU K' t := (pS_cong h hn _ (by omega)).1
theorem pL_cong {K K' : jH} (h : kEq K K') (hn : 0 ≤ K 0 0 ∧ K 0 0 ≤ 9) {t b : Int} (t1 : t < 60) (b0 : 0 ≤ b) (b1 : b < K 0 0) : pL K t b = pL K' t b := ((pS_cong h hn _ (by omega)).2.2 b b0 b1).1
theorem pO_r {K : jH} (hn : 0 ≤ K 0 0 ∧ K 0 0 ≤ 9) (t : Int) : 0 ≤ pO K t ∧ pO K t < 512 := pS_O hn _
theorem pU_r {K : jH} (hn : 0 ≤ K 0 0 ∧ K 0 0 ≤ 9) (t : Int) : 0 ≤ pU K t ∧ pU K t < 512 := pS_U hn _
theorem cOk_of {K K' : jH} (ok : cOk K') (hn : K 0 0 = K' 0 0) (hl : 0 ≤ K 0 5 ∧ K 0 5 < 512) (hb : ∀ b, 0 ≤ b → b < K 0 0 → K 1 b = K' 1 b ∧ K 2 b = K' 2 b ∧ K 3 b = K' 3 b ∧ K 4 b = K' 4 b) (ht : ∀ t, 0 ≤ t → t < 60 → K 6 t = K' 6 t ∧ K 7 t = K' 7 t ∧ K 8 t = K' 8 t) : cOk K := by
  obtain ⟨o1, o2, o3, o4, o5⟩ := ok
  refine ⟨by omega, hl, fun b b0 b1 => ?_, fun b c b0 b1 c0 c1 e => ?_, fun t t0 t1 => ?_⟩
  · obtain ⟨e1, e2, e3, e4⟩ := hb b b0 b1
    rw [e1, e2, e3, e4]
    exact o3 b b0 (by omega)
  · rw [(hb b b0 b1).2.2.2, (hb c c0 c1).2.2.2] at e
    exact o4 b c b0 (by omega) c0 (by omega) e
  · obtain ⟨e1, e2, e3⟩ := ht t t0 t1
    rw [e1, e2, e3]
    exact o5 t t0 t1
/-- the place of a box by a row -/
def rinv (f : Int → Int) (b : Int) : Int := if f 0 = b then 0 else if f 1 = b then 1 else if f 2 = b then 2 else if f 3 = b then 3 else if f 4 = b then 4 else if f 5 = b then 5 else if f 6 = b then 6 else if f 7 = b then 7 else 8
theorem rinv_at {f : Int → Int} (hi : ∀ p q, 0 ≤ p → p < 9 → 0 ≤ q → q < 9 → f p = f q → p = q) {p : Int} (h0 : 0 ≤ p) (h1 : p < 9) : rinv f (f p) = p := by
  have key : ∀ q, 0 ≤ q → q < 9 → q ≠ p → f q ≠ f p := fun q q0 q1 hne e => hne (hi q p q0 q1 h0 h1 e)
  unfold rinv
  rcases (show p = 0 ∨ p = 1 ∨ p = 2 ∨ p = 3 ∨ p = 4 ∨ p = 5 ∨ p = 6 ∨ p = 7 ∨ p = 8 by omega) with rfl | rfl | rfl | rfl | rfl | rfl | rfl | rfl | rfl
  · rw [if_pos rfl]
  · rw [if_neg (key 0 (by omega) (by omega) (by omega)), if_pos rfl]
  · rw [if_neg (key 0 (by omega) (by omega) (by omega)), if_neg (key 1 (by omega) (by omega) (by omega)), if_pos rfl]
  · rw [if_neg (key 0 (by omega) (by omega) (by omega)), if_neg (key 1 (by omega) (by omega) (by omega)), if_neg (key 2 (by omega) (by omega) (by omega)), if_pos rfl]
  · rw [if_neg (key 0 (by omega) (by omega) (by omega)), if_neg (key 1 (by omega) (by omega) (by omega)), if_neg (key 2 (by omega) (by omega) (by omega)), if_neg (key 3 (by omega) (by omega) (by omega)), if_pos rfl]
  · rw [if_neg (key 0 (by omega) (by omega) (by omega)), if_neg (key 1 (by omega) (by omega) (by omega)), if_neg (key 2 (by omega) (by omega) (by omega)), if_neg (key 3 (by omega) (by omega) (by omega)), if_neg (key 4 (by omega) (by omega) (by omega)), if_pos rfl]
  · rw [if_neg (key 0 (by omega) (by omega) (by omega)), if_neg (key 1 (by omega) (by omega) (by omega)), if_neg (key 2 (by omega) (by omega) (by omega)), if_neg (key 3 (by omega) (by omega) (by omega)), if_neg (key 4 (by omega) (by omega) (by omega)), if_neg (key 5 (by omega) (by omega) (by omega)), if_pos rfl]
  · rw [if_neg (key 0 (by omega) (by omega) (by omega)), if_neg (key 1 (by omega) (by omega) (by omega)), if_neg (key 2 (by omega) (by omega) (by omega)), if_neg (key 3 (by omega) (by omega) (by omega)), if_neg (key 4 (by omega) (by omega) (by omega)), if_neg (key 5 (by omega) (by omega) (by omega)), if_neg (key 6 (by omega) (by omega) (by omega)), if_pos rfl]
  · rw [if_neg (key 0 (by omega) (by omega) (by omega)), if_neg (key 1 (by omega) (by omega) (by omega)), if_neg (key 2 (by omega) (by omega) (by omega)), if_neg (key 3 (by omega) (by omega) (by omega)), if_neg (key 4 (by omega) (by omega) (by omega)), if_neg (key 5 (by omega) (by omega) (by omega)), if_neg (key 6 (by omega) (by omega) (by omega)), if_neg (key 7 (by omega) (by omega) (by omega))]
def rowOk (H : jH) (k : Nat) : Prop := jRow H k ∧ ∀ b, 0 ≤ b → b < 9 → ∃ p, 0 ≤ p ∧ p < 9 ∧ H k p = b
def hearOk (H : jH) : Prop := (0 ≤ H 0 6 ∧ H 0 6 ≤ 8) ∧ ∀ k, 0 ≤ k → k < H 0 6 → (0 ≤ H 11 k ∧ H 11 k < 60) ∧ (0 ≤ H 12 k ∧ H 12 k ≤ 9)
def shOk (H : jH) : Prop := ∀ k l, jSh k l → (H k 0 = 0 ∨ H k 0 = 1) ∧ (0 ≤ H k 1 ∧ H k 1 < 3) ∧ (0 ≤ H k 2 ∧ H k 2 ≤ 60)
/-- the configuration as told -/
def cfg (H : jH) : jH := fun k i => if k = 0 then (if i = 0 then H 1 3 else if i = 5 then H 0 2 else 0) else if k = 1 then H 3 i else if k = 2 then H 4 i else if k = 3 then H 5 i else if k = 4 then rinv (H 6) i else if k = 6 then tm (H 8) (H 9) (H 10) 0 i (H 7 3) else if k = 7 then tm (H 8) (H 9) (H 10) 1 i (H 7 3) else if k = 8 then tm (H 8) (H 9) (H 10) 2 i (H 7 3) else 0
def baseOk (H : jH) : Prop := txtOk H ∧ parsed H ∧ rowOk H 6 ∧ (0 ≤ H 0 2 ∧ H 0 2 < 512) ∧ jTold H ∧ hearOk H ∧ shOk H
def cacheOk (H : jH) : Prop := (H 0 10 = 0 ∨ H 0 10 = 1) ∧ (H 0 10 = 0 → ∀ t, 0 ≤ t → t < 60 → H 31 t = pO (cfg H) t ∧ H 32 t = pU (cfg H) t)
def CI (H : jH) : Prop := baseOk H ∧ cacheOk H
theorem parsed_n {H : jH} (h : txtOk H) (hp : parsed H) : 0 ≤ H 1 3 ∧ H 1 3 ≤ 9 := by
  obtain ⟨⟨n0, n1⟩, _⟩ := h
  rw [hp.2.1]
  split <;> omega
theorem parsed_b {H : jH} (h : txtOk H) (hp : parsed H) {b : Int} (b0 : 0 ≤ b) (b1 : b < H 1 3) : (0 ≤ H 3 b ∧ H 3 b ≤ 4) ∧ (1 ≤ H 4 b ∧ H 4 b ≤ 9) ∧ (1 ≤ H 5 b ∧ H 5 b ≤ 9) := by
  obtain ⟨⟨n0, n1⟩, _⟩ := h
  obtain ⟨p1, p2, p3⟩ := hp
  obtain ⟨e1, e2, e3⟩ := p3 b b0 b1
  have hf : H 1 2 = -1 := by
    by_cases q : H 1 2 = -1
    · exact q
    · rw [if_neg q] at p2; omega
  rw [if_pos hf] at p2
  have hd : (∀ q, 0 ≤ q → q < H 1 1 → dueP q (H 2 q)) ∧ (H 1 1 = 0 ∨ H 1 1 % 4 = 3) := by
    rcases p1 with ⟨a1, _, _, _⟩ | ⟨a1, a2, _⟩ | ⟨_, _, a3⟩
    · omega
    · exact ⟨a1, a2⟩
    · omega
  have d0 := hd.1 (4 * b) (by omega) (by omega)
  have d1 := hd.1 (4 * b + 1) (by omega) (by omega)
  have d2 := hd.1 (4 * b + 2) (by omega) (by omega)
  unfold dueP at d0 d1 d2
  have hx : jIdx (H 2 (4 * b)) ≤ 4 := by unfold jIdx; repeat' split; all_goals omega
  rw [e1, e2, e3]
  omega
theorem rinv_r {H : jH} {k : Nat} (h : rowOk H k) {b : Int} (b0 : 0 ≤ b) (b1 : b < 9) : (0 ≤ rinv (H k) b ∧ rinv (H k) b ≤ 8) ∧ H k (rinv (H k) b) = b := by
  obtain ⟨p, p0, p1, e⟩ := h.2 b b0 b1
  subst e
  rw [rinv_at h.1.2 p0 p1]
  exact ⟨by omega, rfl⟩
theorem cfg_ok {H : jH} (h : baseOk H) : cOk (cfg H) := by
  obtain ⟨h1, h2, h3, h4, h5, h6, h7⟩ := h
  have hn := parsed_n h1 h2
  refine ⟨hn, h4, fun b b0 b1 => ?_, fun b c b0 b1 c0 c1 e => ?_, fun t t0 t1 => ?_⟩
  · obtain ⟨a1, a2, a3⟩ := parsed_b h1 h2 b0 b1
    have hb9 : b < 9 := by have : b < H 1 3 := b1; omega
    have hr := (rinv_r h3 b0 hb9).1
    exact ⟨a1, ⟨by show 0 ≤ H 4 b; omega, a2.2⟩, fun _ => a2.1, ⟨by show 0 ≤ H 5 b; omega, a3.2⟩, hr⟩
  · have hb9 : b < 9 := by have : b < H 1 3 := b1; omega
    have hc9 : c < 9 := by have : c < H 1 3 := c1; omega
    have e1 := (rinv_r h3 b0 hb9).2
    have e2 := (rinv_r h3 c0 hc9).2
    have e : rinv (H 6) b = rinv (H 6) c := e
    rw [e] at e1
    exact e1.symm.trans e2
  · have hm : ∀ a, 0 ≤ tm (H 8) (H 9) (H 10) a t (H 7 3) ∧ tm (H 8) (H 9) (H 10) a t (H 7 3) < 512 := fun a => tm_512 (fun k k0 k1 => (h5.2 k k0 k1).2.1)
    exact ⟨hm 0, hm 1, hm 2⟩
/-- a loaded course holds the configuration as told, with these lids -/
theorem ld_K {c : Nat} {H H1 : jH} {lid : Int} (hb : baseOk H) (ld : cLd c H H1 lid) (hlid : 0 ≤ lid ∧ lid < 512) : cOk (cK H1 c) ∧ cK H1 c 0 0 = H 1 3 ∧ cK H1 c 0 5 = lid ∧ (∀ b, 0 ≤ b → b < 9 → cK H1 c 1 b = H 3 b ∧ cK H1 c 2 b = H 4 b ∧ cK H1 c 3 b = H 5 b ∧ cK H1 c 4 b = rinv (H 6) b) ∧ (∀ t, 0 ≤ t → t < 60 → cK H1 c 6 t = cfg H 6 t ∧ cK H1 c 7 t = cfg H 7 t ∧ cK H1 c 8 t = cfg H 8 t) := by
  obtain ⟨l1, l2, l3, l4, l5, l6, l7⟩ := ld
  have hn := parsed_n hb.1 hb.2.1
  have hB : ∀ b, 0 ≤ b → b < 9 → cK H1 c 1 b = H 3 b ∧ cK H1 c 2 b = H 4 b ∧ cK H1 c 3 b = H 5 b ∧ cK H1 c 4 b = rinv (H 6) b := fun b b0 b1 => by
    obtain ⟨e1, e2, e3⟩ := l5 b b0 b1
    have hr := rinv_r hb.2.2.1 b0 b1
    have e4 := l6 (rinv (H 6) b) hr.1.1 (by omega)
    rw [hr.2] at e4
    exact ⟨e1, e2, e3, e4⟩
  refine ⟨?_, l3, l4, hB, l7⟩
  refine cOk_of (cfg_ok hb) l3 (by rw [cK_l, l4]; exact hlid) (fun b b0 b1 => ?_) l7
  have : b < H 1 3 := by rw [cK_n, l3] at b1; exact b1
  exact hB b b0 (by omega)
/-- what a question may change -/
def CQ (H H' : jH) : Prop := (∀ k, k ≠ 0 → (k < 22 ∨ 55 < k) → H' k = H k) ∧ (∀ j, j ≠ 10 → H' 0 j = H 0 j) ∧ CI H'
theorem CQ.refl {H : jH} (h : CI H) : CQ H H := ⟨fun _ _ _ => rfl, fun _ _ => rfl, h⟩
theorem CQ.trans {H H1 H2 : jH} (h : CQ H H1) (g : CQ H1 H2) : CQ H H2 := ⟨fun k a b => (g.1 k a b).trans (h.1 k a b), fun j a => (g.2.1 j a).trans (h.2.1 j a), g.2.2⟩
theorem cfg_eq {H H' : jH} (h1 : ∀ k, k ≠ 0 → k < 22 → H' k = H k) (h2 : ∀ j, j ≠ 10 → H' 0 j = H 0 j) : cfg H' = cfg H := by
  funext k i
  unfold cfg
  rw [h1 1 (by decide) (by decide), h1 3 (by decide) (by decide), h1 4 (by decide) (by decide), h1 5 (by decide) (by decide), h1 6 (by decide) (by decide), h1 7 (by decide) (by decide), h1 8 (by decide) (by decide), h1 9 (by decide) (by decide), h1 10 (by decide) (by decide), h2 2 (by decide)]
theorem CQ.cfg {H H' : jH} (h : CQ H H') : cfg H' = cfg H := cfg_eq (fun k a b => h.1 k a (Or.inl b)) h.2.1
theorem base_eq {H H' : jH} (h1 : ∀ k, k ≠ 0 → k < 22 → H' k = H k) (h2 : ∀ j, j ≠ 10 → H' 0 j = H 0 j) (h : baseOk H) : baseOk H' := by
  obtain ⟨a1, a2, a3, a4, a5, a6, a7⟩ := h
  refine ⟨?_, ?_, ?_, ?_, ?_, ?_, ?_⟩
  · unfold txtOk at *; rw [h1 1 (by decide) (by decide), h1 2 (by decide) (by decide)]; exact a1
  · unfold parsed at *; rw [h1 1 (by decide) (by decide), h1 2 (by decide) (by decide), h1 3 (by decide) (by decide), h1 4 (by decide) (by decide), h1 5 (by decide) (by decide)]; exact a2
  · unfold rowOk jRow at *; rw [h1 6 (by decide) (by decide)]; exact a3
  · rw [h2 2 (by decide)]; exact a4
  · unfold jTold at *; rw [h1 7 (by decide) (by decide), h1 8 (by decide) (by decide), h1 9 (by decide) (by decide), h1 10 (by decide) (by decide)]; exact a5
  · unfold hearOk at *; rw [h2 6 (by decide), h1 11 (by decide) (by decide), h1 12 (by decide) (by decide)]; exact a6
  · intro k l hs
    have hk : k ≠ 0 ∧ k < 22 := by rcases hs with ⟨rfl, _⟩ | ⟨rfl, _⟩ | ⟨rfl, _⟩ | ⟨rfl, _⟩ <;> decide
    rw [h1 k hk.1 hk.2]
    exact a7 k l hs
/-- the trial and the rows of scratch may be anything -/
theorem CQ.of {H H' : jH} (h : CI H) (h1 : ∀ k, k ≠ 0 → (k < 37 ∨ 55 < k) → H' k = H k) (h2 : ∀ j, H' 0 j = H 0 j) : CQ H H' := by
  refine ⟨fun k a b => h1 k a (by omega), fun j _ => h2 j, ?_⟩
  have hc := cfg_eq (H := H) (H' := H') (fun k a b => h1 k a (by omega)) (fun j _ => h2 j)
  refine ⟨base_eq (fun k a b => h1 k a (by omega)) (fun j _ => h2 j) h.1, ?_⟩
  unfold cacheOk
  rw [hc, h2, h1 31 (by decide) (by decide), h1 32 (by decide) (by decide)]
  exact h.2
section S20
variable {E : jE} {H : jH}
-- X4_runAsTold
theorem s_runAsTold (h : CI H) : jOk E mX4_runAsTold [jRF E 0] H (jQv fun H' => CQ H H' ∧ H' 0 10 = 0) := by
  obtain ⟨hb, hc⟩ := id h
  refine jOk.rng (fun hR0 => ?_)
  refine jOk.ofe rfl (Nat.le_of_ble_eq_true rfl) (en_a_1 (E := E)) ?_
  refine j_aload_n 1 rfl rfl dX4_runAsTold_0 ?_
  refine g_geti 4 rfl 10 10 rfl fl_X4_56 dX4_runAsTold_1 (by decide) ( rfl) ( rfl) ?_
  refine j_if_eq 44 7 (by decide) rfl dX4_runAsTold_4 (by intro hR; first | omega | exact hR _ _ | exact jb_r _ | exact hR0 _ _ | assumption) (fun ho => ?_) (fun ho => ?_)
  · refine j_vretv dX4_runAsTold_44 rfl ?_
    exact ⟨CQ.refl h, ho⟩
  · refine j_aload_n 8 rfl rfl dX4_runAsTold_7 ?_
    refine j_getr 11 rfl 9 fl_X4_52 dX4_runAsTold_8 (by decide) ( rfl) ( rfl) ?_
    refine j_aload_n 12 rfl rfl dX4_runAsTold_11 ?_
    refine j_getr 15 rfl 0 fl_X4_12 dX4_runAsTold_12 (by decide) ( rfl) ( rfl) ?_
    refine j_aload_n 16 rfl rfl dX4_runAsTold_15 ?_
    refine j_getr 19 rfl 1 fl_X4_16 dX4_runAsTold_16 (by decide) ( rfl) ( rfl) ?_
    refine j_aload_n 20 rfl rfl dX4_runAsTold_19 ?_
    refine g_geti 23 rfl 2 2 rfl fl_X4_20 dX4_runAsTold_20 (by decide) ( rfl) ( rfl) ?_
    refine j_aload_n 24 rfl rfl dX4_runAsTold_23 ?_
    refine j_getr 27 rfl 3 fl_X4_27 dX4_runAsTold_24 (by decide) ( rfl) ( rfl) ?_
    refine jV4v 30 rfl dX4_runAsTold_27 lk_X4_161 rfl rfl (by decide) ( rfl) ( rfl) (s_load_22 hb.2.2.2.1 hb.2.2.1.1 hb.2.2.2.2.1) (fun H1 ld => ?_)
    obtain ⟨k1, k2, k3, k4, k5⟩ := ld_K hb ld hb.2.2.2.1
    refine j_aload_n 31 rfl rfl dX4_runAsTold_30 ?_
    refine j_getr 34 rfl 9 fl_X4_52 dX4_runAsTold_31 (by decide) ( rfl) ( rfl) ?_
    refine j_bipush 36 rfl rfl dX4_runAsTold_34 ?_
    refine jV1v 39 rfl dX4_runAsTold_36 lk_X4_187 rfl rfl (by decide) ( rfl) ( rfl) (s_run_22 (by omega) k1) (fun H2 ⟨fr, q⟩ => ?_)
    refine j_aload_n 40 rfl rfl dX4_runAsTold_39 ?_
    refine j_iconst 41 rfl dX4_runAsTold_40 ?_
    refine g_putz 44 rfl 10 10 rfl fl_X4_56 ft_4_10 dX4_runAsTold_41 (by decide) ( rfl) ( rfl) (by first | decide | omega) ?_
    refine j_vretv dX4_runAsTold_44 rfl ?_
    have e1 : ∀ k, k ≠ 0 → (k < 22 ∨ 55 < k) → jU H2 0 10 0 k = H k := fun k a b => by
      rw [jU_o a, fr.1 k (by omega) (by omega)]
      exact ld.1 k (by omega)
    have e2 : ∀ j, j ≠ 10 → jU H2 0 10 0 0 j = H 0 j := fun j a => by
      rw [jU_i a, fr.1 0 (by decide) (by decide), ld.1 0 (by decide)]
    have hcf : cfg (jU H2 0 10 0) = cfg H := cfg_eq (fun k a b => e1 k a (Or.inl b)) e2
    have kq : kEq (cK H1 22) (cfg H) := by
      refine ⟨k2, fun b b0 b1 => ?_, fun t t0 t1 b b0 b1 => ?_⟩
      · have hn := parsed_n hb.1 hb.2.1
        obtain ⟨a1, a2, a3, a4⟩ := k4 b b0 (by omega)
        exact ⟨by rw [k3]; rfl, a1, fun _ => a2, a3, a4⟩
      · obtain ⟨a1, a2, a3⟩ := k5 t t0 t1
        rw [a1, a2, a3]
        exact ⟨fun _ => rfl, fun _ => rfl, rfl⟩
    refine ⟨⟨e1, e2, base_eq (fun k a b => e1 k a (Or.inl b)) e2 hb, Or.inl jU_s, fun _ t t0 t1 => ?_⟩, jU_s⟩
    rw [hcf, jU_k (by decide), jU_k (by decide)]
    obtain ⟨q1, q2⟩ := q t t0 (by omega)
    rw [q1, q2]
    exact ⟨pO_cong kq k1.1 t1, pU_cong kq k1.1 t1⟩
end S20
