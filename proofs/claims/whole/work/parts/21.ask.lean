/-! ===== the class's questions of the steps ===== -/
def isFst (p : Int → Prop) (lo hi r : Int) : Prop := (lo ≤ r ∧ r < hi ∧ p r ∧ ∀ q, lo ≤ q → q < r → ¬ p q) ∨ ((∀ q, lo ≤ q → q < hi → ¬ p q) ∧ r = -1)
theorem isFst_one {p q : Int → Prop} {lo hi r r2 : Int} (hpq : ∀ s, lo ≤ s → s < hi → (p s ↔ q s)) (h : isFst p lo hi r) (h2 : isFst q lo hi r2) : r = r2 := by
  rcases h with ⟨a1, a2, a3, a4⟩ | ⟨a1, a2⟩ <;> rcases h2 with ⟨b1, b2, b3, b4⟩ | ⟨b1, b2⟩
  · rcases (show r < r2 ∨ r = r2 ∨ r2 < r by omega) with h | h | h
    · exact absurd ((hpq r a1 a2).mp a3) (b4 r a1 h)
    · exact h
    · exact absurd ((hpq r2 b1 b2).mpr b3) (a4 r2 b1 h)
  · exact absurd ((hpq r a1 a2).mp a3) (b1 r a1 a2)
  · exact absurd ((hpq r2 b1 b2).mpr b3) (a1 r2 b1 b2)
  · omega
def isQuiet (f : Int → Int) (r : Int) : Prop := ∃ m, (0 ≤ m ∧ m ≤ 60) ∧ (∀ s, m ≤ s → s < 60 → f s = 0) ∧ (m = 0 ∨ f (m - 1) ≠ 0) ∧ r = if m = 60 then -1 else m
theorem isQuiet_one {f g : Int → Int} {r r2 : Int} (hfg : ∀ s, 0 ≤ s → s < 60 → f s = g s) (h : isQuiet f r) (h2 : isQuiet g r2) : r = r2 := by
  obtain ⟨m, a1, a2, a3, a4⟩ := h
  obtain ⟨n, b1, b2, b3, b4⟩ := h2
  have : m = n := by
    rcases (show m < n ∨ m = n ∨ n < m by omega) with h | h | h
    · rcases b3 with b3 | b3
      · omega
      · exact absurd ((hfg (n - 1) (by omega) (by omega)).symm.trans (a2 (n - 1) (by omega) (by omega))) b3
    · exact h
    · rcases a3 with a3 | a3
      · omega
      · exact absurd ((hfg (m - 1) (by omega) (by omega)).trans (b2 (m - 1) (by omega) (by omega))) a3
  rw [a4, b4, this]
def isLoud (f : Int → Int) (w r : Int) : Prop := ∃ m, (0 ≤ m ∧ m < 60) ∧ (∀ s, 0 ≤ s → s < 60 → oc (f s) ≤ oc (f m)) ∧ (∀ s, 0 ≤ s → s < m → oc (f s) < oc (f m)) ∧ r = if oc (f m) = 0 then -1 else if w = 0 then m else oc (f m)
theorem isLoud_one {f g : Int → Int} {w r r2 : Int} (hfg : ∀ s, 0 ≤ s → s < 60 → f s = g s) (h : isLoud f w r) (h2 : isLoud g w r2) : r = r2 := by
  obtain ⟨m, a1, a2, a3, a4⟩ := h
  obtain ⟨n, b1, b2, b3, b4⟩ := h2
  have : m = n := by
    rcases (show m < n ∨ m = n ∨ n < m by omega) with h | h | h
    · have c1 := b3 m a1.1 h
      have c2 := a2 n b1.1 b1.2
      rw [hfg n b1.1 b1.2, hfg m a1.1 a1.2] at c2
      omega
    · exact h
    · have c1 := a3 n b1.1 h
      have c2 := b2 m a1.1 a1.2
      rw [hfg n b1.1 b1.2, hfg m a1.1 a1.2] at c1
      omega
  subst this
  rw [a4, b4, hfg m a1.1 a1.2]
def spr1 (y u : Int) : Int := if bAnd y u ≠ 0 then bOr y u else y
def hvN (f : Int → Int) (x s : Int) : Nat → Int
  | 0 => x
  | n + 1 => spr1 (hvN f x s n) (f (s + n))
/-- who has the news behind the steps s to e - 1 -/
def hv (f : Int → Int) (x s e : Int) : Int := hvN f x s (e - s).toNat
theorem hv_0 (f : Int → Int) (x s : Int) : hv f x s s = x := by unfold hv; rw [Int.sub_self]; rfl
theorem hv_s (f : Int → Int) (x : Int) {s e : Int} (h : s ≤ e) : hv f x s (e + 1) = spr1 (hv f x s e) (f e) := by
  unfold hv
  have e1 : (e + 1 - s).toNat = (e - s).toNat + 1 := by omega
  rw [e1, hvN]
  have e2 : s + (((e - s).toNat : Nat) : Int) = e := by omega
  rw [e2]
theorem hvN_r (f : Int → Int) {x s : Int} (hx : -2147483648 ≤ x ∧ x ≤ 2147483647) : ∀ n : Nat, -2147483648 ≤ hvN f x s n ∧ hvN f x s n ≤ 2147483647
  | 0 => hx
  | n + 1 => by
    unfold hvN spr1
    split
    · exact jb_r _
    · exact hvN_r f hx n
theorem hv_r (f : Int → Int) {x s e : Int} (hx : -2147483648 ≤ x ∧ x ≤ 2147483647) : -2147483648 ≤ hv f x s e ∧ hv f x s e ≤ 2147483647 := hvN_r f hx _
theorem hvN_cong {f g : Int → Int} {x s : Int} : ∀ n : Nat, (∀ q : Nat, q < n → f (s + q) = g (s + q)) → hvN f x s n = hvN g x s n
  | 0, _ => rfl
  | n + 1, h => by rw [hvN, hvN, hvN_cong n (fun q hq => h q (by omega)), h n (by omega)]
theorem hv_cong {f g : Int → Int} {x s e : Int} (h : ∀ q, s ≤ q → q < e → f q = g q) : hv f x s e = hv g x s e := hvN_cong _ (fun q hq => h _ (by omega) (by omega))
theorem both_bt {x a b : Int} (ha : 0 ≤ a ∧ a < 9) (hb : 0 ≤ b ∧ b < 9) : bAnd x (bOr (bShl 1 a) (bShl 1 b)) = bOr (bShl 1 a) (bShl 1 b) ↔ (bt x a = true ∧ bt x b = true) := by
  have hB : ∀ q, 0 ≤ q → q < 32 → bt (bOr (bShl 1 a) (bShl 1 b)) q = (decide (q = a) || decide (q = b)) := fun q q0 q1 => by
    rw [bt_or, bt_shl1 (by omega) ⟨q0, q1⟩, bt_shl1 (by omega) ⟨q0, q1⟩]
  constructor
  · intro h
    have h1 := congrArg (fun z => bt z a) h
    have h2 := congrArg (fun z => bt z b) h
    simp only [bt_and] at h1 h2
    rw [hB a ha.1 (by omega)] at h1
    rw [hB b hb.1 (by omega)] at h2
    simp at h1 h2
    exact ⟨h1, h2⟩
  · rintro ⟨h1, h2⟩
    apply bt_ext (jb_r _) (jb_r _)
    intro q q0 q1
    rw [bt_and, hB q q0 q1]
    by_cases qa : q = a
    · subst qa; simp [h1]
    · by_cases qb : q = b
      · subst qb; simp [h2]
      · simp [qa, qb]
section S21
variable {E : jE} {H : jH}
theorem cq_arr {H H1 : jH} (q : CQ H H1) (h0 : H1 0 10 = 0) {t : Int} (t0 : 0 ≤ t) (t1 : t < 60) : H1 31 t = pO (cfg H) t ∧ H1 32 t = pU (cfg H) t := by
  have := q.2.2.2.2 h0 t t0 t1
  rw [q.cfg] at this
  exact this
-- X4_lengthen
theorem s_lengthen {n : Int} (hn : 0 ≤ n ∧ n ≤ 35) (hb : ∀ q, 0 ≤ q → q < n → 0 ≤ H 2 q ∧ H 2 q < 256) : jOk E mX4_lengthen [jRF E 0, .int (jI n)] H (jQi fun r H' => r = n ∧ (∀ k, k ≠ 0 → k ≠ 1 → k ≠ 3 → k ≠ 4 → k ≠ 5 → H' k = H k) ∧ (∀ j, j ≠ 10 → H' 0 j = H 0 j) ∧ H' 0 10 = 1 ∧ H' 1 1 = n ∧ parsed H') := by
  refine jOk.rng (fun hR0 => ?_)
  refine jOk.ofe rfl (Nat.le_of_ble_eq_true rfl) (en_ai_2 (E := E)) ?_
  refine j_aload_n 1 rfl rfl dX4_lengthen_0 ?_
  refine j_getr 4 rfl 0 fl_X4_12 dX4_lengthen_1 (by decide) ( rfl) ( rfl) ?_
  refine j_iload_n 5 rfl rfl dX4_lengthen_4 ?_
  refine g_puti 8 rfl 1 1 rfl fl_X4_76 ft_0_1 dX4_lengthen_5 (by decide) ( rfl) ( rfl) (by intro hR; first | omega | exact hR _ _ | exact jb_r _ | exact hR0 _ _ | assumption) ?_
  refine j_aload_n 9 rfl rfl dX4_lengthen_8 ?_
  refine j_getr 12 rfl 0 fl_X4_12 dX4_lengthen_9 (by decide) ( rfl) ( rfl) ?_
  refine jV0v 15 rfl dX4_lengthen_12 lk_X4_320 rfl rfl (by decide) ( rfl) ( rfl) (s_parse (by refine ⟨by rw [jU_s]; exact hn, fun q q0 q1 => ?_⟩; rw [jU_s] at q1; rw [jU_k (by decide)]; exact hb q q0 q1)) (fun H1 ⟨⟨f1, f2⟩, hp⟩ => ?_)
  refine j_aload_n 16 rfl rfl dX4_lengthen_15 ?_
  refine j_iconst 17 rfl dX4_lengthen_16 ?_
  refine g_putz 20 rfl 10 10 rfl fl_X4_56 ft_4_10 dX4_lengthen_17 (by decide) ( rfl) ( rfl) (by first | decide | omega) ?_
  refine j_iload_n 21 rfl rfl dX4_lengthen_20 ?_
  refine j_ireti dX4_lengthen_21 rfl ?_
  refine ⟨rfl, fun k a b c d e => ?_, fun j a => ?_, jU_s, ?_, ?_⟩
  · rw [jU_o a, f1 k b c d e, jU_o b]
  · rw [jU_i a, f1 0 (by decide) (by decide) (by decide) (by decide), jU_k (by decide)]
  · rw [jU_k (by decide), f2 1 (by decide) (by decide), jU_s]
  · unfold parsed at hp ⊢
    rw [jU_o (by decide), jU_o (by decide), jU_o (by decide), jU_o (by decide), jU_o (by decide)]
    exact hp
-- X4_type
theorem s_type {b : Int} (hb : -2147483648 ≤ b ∧ b ≤ 2147483647) (ok : txtOk H) : jOk E mX4_type [jRF E 0, .int (jI b)] H (jQi fun r H' => (¬ (0 ≤ b ∧ b < 256) ∧ r = -2 ∧ H' = H) ∨ ((0 ≤ b ∧ b < 256) ∧ H 1 1 = 35 ∧ r = -4 ∧ H' = H) ∨ ((0 ≤ b ∧ b < 256) ∧ H 1 1 < 35 ∧ r = H 1 1 + 1 ∧ (∀ k, k ≠ 0 → k ≠ 1 → k ≠ 2 → k ≠ 3 → k ≠ 4 → k ≠ 5 → H' k = H k) ∧ (∀ j, j ≠ 10 → H' 0 j = H 0 j) ∧ H' 0 10 = 1 ∧ H' 1 1 = H 1 1 + 1 ∧ H' 2 = jU H 2 (H 1 1) b 2 ∧ parsed H')) := by
  obtain ⟨hn, ht⟩ := ok
  have hby : (0 ≤ b ∧ b < 256) → ∀ q, 0 ≤ q → q < H 1 1 + 1 → 0 ≤ jU H 2 (H 1 1) b 2 q ∧ jU H 2 (H 1 1) b 2 q < 256 := fun hb2 q q0 q1 => by
    by_cases e : q = H 1 1
    · subst e; rw [jU_s]; exact hb2
    · rw [jU_i e]; exact ht q q0 (by omega)
  refine jOk.rng (fun hR0 => ?_)
  refine jOk.ofe rfl (Nat.le_of_ble_eq_true rfl) (en_ai_2 (E := E)) ?_
  refine j_iload_n 1 rfl rfl dX4_type_0 ?_
  refine j_if_lt 11 4 (by decide) rfl dX4_type_1 (by intro hR; first | omega | exact hR _ _ | exact jb_r _ | exact hR0 _ _ | assumption) (fun h1 => ?_) (fun h1 => ?_)
  · refine j_bipush 13 rfl rfl dX4_type_11 ?_
    refine j_ireti dX4_type_13 rfl ?_
    first | exact Or.inl ⟨by omega, rfl, rfl⟩ | exact Or.inr (Or.inl ⟨by omega, by omega, rfl, rfl⟩) | (obtain ⟨e0, e1, e2, e3, e4, e5⟩ := hq; exact Or.inr (Or.inr ⟨by omega, by omega, e0, fun k a b c d e f => by rw [e1 k a b d e f, jU_o c], fun j a => by rw [e2 j a, jU_k (by decide)], e3, e4, e1 2 (by decide) (by decide) (by decide) (by decide) (by decide), e5⟩))
  · refine j_iload_n 5 rfl rfl dX4_type_4 ?_
    refine j_sipush 8 rfl rfl dX4_type_5 ?_
    refine j_icmp_le 14 11 (by decide) rfl dX4_type_8 (by intro hR; first | omega | exact hR _ _ | exact jb_r _ | exact hR0 _ _ | assumption) (by intro hR; first | omega | exact hR _ _ | exact jb_r _ | exact hR0 _ _ | assumption) (fun h8 => ?_) (fun h8 => ?_)
    · refine j_aload_n 15 rfl rfl dX4_type_14 ?_
      refine j_getr 18 rfl 0 fl_X4_12 dX4_type_15 (by decide) ( rfl) ( rfl) ?_
      refine g_geti 21 rfl 1 1 rfl fl_X4_76 dX4_type_18 (by decide) ( rfl) ( rfl) ?_
      refine j_bipush 23 rfl rfl dX4_type_21 ?_
      refine j_icmp_lt 29 26 (by decide) rfl dX4_type_23 (by intro hR; first | omega | exact hR _ _ | exact jb_r _ | exact hR0 _ _ | assumption) (by intro hR; first | omega | exact hR _ _ | exact jb_r _ | exact hR0 _ _ | assumption) (fun h23 => ?_) (fun h23 => ?_)
      · refine j_aload_n 30 rfl rfl dX4_type_29 ?_
        refine j_getr 33 rfl 0 fl_X4_12 dX4_type_30 (by decide) ( rfl) ( rfl) ?_
        refine j_getr 36 rfl 0 fl_X4_79 dX4_type_33 (by decide) ( rfl) ( rfl) ?_
        refine j_aload_n 37 rfl rfl dX4_type_36 ?_
        refine j_getr 40 rfl 0 fl_X4_12 dX4_type_37 (by decide) ( rfl) ( rfl) ?_
        refine g_geti 43 rfl 1 1 rfl fl_X4_76 dX4_type_40 (by decide) ( rfl) ( rfl) ?_
        refine j_iload_n 44 rfl rfl dX4_type_43 ?_
        refine j_iast 45 rfl dX4_type_44 (by decide) rfl (by decide) rfl (by omega) (by intro hR; first | omega | exact hR _ _ | exact jb_r _ | exact hR0 _ _ | assumption) ?_
        refine j_aload_n 46 rfl rfl dX4_type_45 ?_
        refine j_aload_n 47 rfl rfl dX4_type_46 ?_
        refine j_getr 50 rfl 0 fl_X4_12 dX4_type_47 (by decide) ( rfl) ( rfl) ?_
        refine g_geti 53 rfl 1 1 rfl fl_X4_76 dX4_type_50 (by decide) ( rfl) ( rfl) ?_
        try simp (disch := omega) only [jU_s, jU_k, jU_i]
        refine j_iconst 54 rfl dX4_type_53 ?_
        refine j_iadd 55 rfl dX4_type_54 ?_
        refine jV1i 58 rfl dX4_type_55 lk_X4_82 rfl rfl (by decide) ( rfl) ( rfl) (s_lengthen (by omega) (hby (by omega))) (fun x H1 hq => ?_)
        refine j_ireti dX4_type_58 rfl ?_
        first | exact Or.inl ⟨by omega, rfl, rfl⟩ | exact Or.inr (Or.inl ⟨by omega, by omega, rfl, rfl⟩) | (obtain ⟨e0, e1, e2, e3, e4, e5⟩ := hq; exact Or.inr (Or.inr ⟨by omega, by omega, e0, fun k a b c d e f => by rw [e1 k a b d e f, jU_o c], fun j a => by rw [e2 j a, jU_k (by decide)], e3, e4, e1 2 (by decide) (by decide) (by decide) (by decide) (by decide), e5⟩))
      · refine j_bipush 28 rfl rfl dX4_type_26 ?_
        refine j_ireti dX4_type_28 rfl ?_
        first | exact Or.inl ⟨by omega, rfl, rfl⟩ | exact Or.inr (Or.inl ⟨by omega, by omega, rfl, rfl⟩) | (obtain ⟨e0, e1, e2, e3, e4, e5⟩ := hq; exact Or.inr (Or.inr ⟨by omega, by omega, e0, fun k a b c d e f => by rw [e1 k a b d e f, jU_o c], fun j a => by rw [e2 j a, jU_k (by decide)], e3, e4, e1 2 (by decide) (by decide) (by decide) (by decide) (by decide), e5⟩))
    · refine j_bipush 13 rfl rfl dX4_type_11 ?_
      refine j_ireti dX4_type_13 rfl ?_
      first | exact Or.inl ⟨by omega, rfl, rfl⟩ | exact Or.inr (Or.inl ⟨by omega, by omega, rfl, rfl⟩) | (obtain ⟨e0, e1, e2, e3, e4, e5⟩ := hq; exact Or.inr (Or.inr ⟨by omega, by omega, e0, fun k a b c d e f => by rw [e1 k a b d e f, jU_o c], fun j a => by rw [e2 j a, jU_k (by decide)], e3, e4, e1 2 (by decide) (by decide) (by decide) (by decide) (by decide), e5⟩))
-- X4_wipe
theorem s_wipe (ok : txtOk H) : jOk E mX4_wipe [jRF E 0] H (jQi fun r H' => r = H 1 1 ∧ (∀ k, k ≠ 0 → k ≠ 1 → k ≠ 3 → k ≠ 4 → k ≠ 5 → H' k = H k) ∧ (∀ j, j ≠ 10 → H' 0 j = H 0 j) ∧ H' 0 10 = 1 ∧ H' 1 1 = 0 ∧ parsed H') := by
  refine jOk.rng (fun hR0 => ?_)
  refine jOk.ofe rfl (Nat.le_of_ble_eq_true rfl) (en_a_2 (E := E)) ?_
  refine j_aload_n 1 rfl rfl dX4_wipe_0 ?_
  refine j_getr 4 rfl 0 fl_X4_12 dX4_wipe_1 (by decide) ( rfl) ( rfl) ?_
  refine g_geti 7 rfl 1 1 rfl fl_X4_76 dX4_wipe_4 (by decide) ( rfl) ( rfl) ?_
  refine j_istore_n 8 rfl st_2_1 (by decide) rfl dX4_wipe_7 ?_
  refine j_aload_n 9 rfl rfl dX4_wipe_8 ?_
  refine j_iconst 10 rfl dX4_wipe_9 ?_
  refine jV1i 13 rfl dX4_wipe_10 lk_X4_82 rfl rfl (by decide) ( rfl) ( rfl) (s_lengthen (by omega) (fun q q0 q1 => by omega)) (fun x H1 hq => ?_)
  refine j_pop 14 rfl rfl dX4_wipe_13 ?_
  refine j_iload_n 15 rfl rfl dX4_wipe_14 ?_
  refine j_ireti dX4_wipe_15 rfl ?_
  exact ⟨rfl, hq.2⟩
-- X4_undo
theorem s_undo (ok : txtOk H) : jOk E mX4_undo [jRF E 0] H (jQi fun r H' => (H 1 1 = 0 ∧ r = -3 ∧ H' = H) ∨ (0 < H 1 1 ∧ r = H 1 1 - 1 ∧ (∀ k, k ≠ 0 → k ≠ 1 → k ≠ 3 → k ≠ 4 → k ≠ 5 → H' k = H k) ∧ (∀ j, j ≠ 10 → H' 0 j = H 0 j) ∧ H' 0 10 = 1 ∧ H' 1 1 = H 1 1 - 1 ∧ parsed H')) := by
  obtain ⟨hn, ht⟩ := ok
  refine jOk.rng (fun hR0 => ?_)
  refine jOk.ofe rfl (Nat.le_of_ble_eq_true rfl) (en_a_1 (E := E)) ?_
  refine j_aload_n 1 rfl rfl dX4_undo_0 ?_
  refine j_getr 4 rfl 0 fl_X4_12 dX4_undo_1 (by decide) ( rfl) ( rfl) ?_
  refine g_geti 7 rfl 1 1 rfl fl_X4_76 dX4_undo_4 (by decide) ( rfl) ( rfl) ?_
  refine j_if_ne 13 10 (by decide) rfl dX4_undo_7 (by intro hR; first | omega | exact hR _ _ | exact jb_r _ | exact hR0 _ _ | assumption) (fun h7 => ?_) (fun h7 => ?_)
  · refine j_aload_n 14 rfl rfl dX4_undo_13 ?_
    refine j_aload_n 15 rfl rfl dX4_undo_14 ?_
    refine j_getr 18 rfl 0 fl_X4_12 dX4_undo_15 (by decide) ( rfl) ( rfl) ?_
    refine g_geti 21 rfl 1 1 rfl fl_X4_76 dX4_undo_18 (by decide) ( rfl) ( rfl) ?_
    refine j_iconst 22 rfl dX4_undo_21 ?_
    refine j_isub 23 rfl dX4_undo_22 ?_
    refine jV1i 26 rfl dX4_undo_23 lk_X4_82 rfl rfl (by decide) ( rfl) ( rfl) (s_lengthen (by omega) (fun q q0 q1 => ht q q0 (by omega))) (fun x H1 hq => ?_)
    refine j_ireti dX4_undo_26 rfl ?_
    first | exact Or.inl ⟨by omega, rfl, rfl⟩ | exact Or.inr ⟨by omega, hq⟩
  · refine j_bipush 12 rfl rfl dX4_undo_10 ?_
    refine j_ireti dX4_undo_12 rfl ?_
    first | exact Or.inl ⟨by omega, rfl, rfl⟩ | exact Or.inr ⟨by omega, hq⟩
-- X4_box
theorem s_box {b w : Int} (hb : -2147483648 ≤ b ∧ b ≤ 2147483647) (hw : -2147483648 ≤ w ∧ w ≤ 2147483647) (hn : 0 ≤ H 1 3 ∧ H 1 3 ≤ 9) : jOk E mX4_box [jRF E 0, .int (jI b), .int (jI w)] H (jQi fun r H' => H' = H ∧ ((¬ (0 ≤ b ∧ b < H 1 3 ∧ 0 ≤ w ∧ w < 3) ∧ r = -2) ∨ ((0 ≤ b ∧ b < H 1 3) ∧ w = 0 ∧ r = H 3 b) ∨ ((0 ≤ b ∧ b < H 1 3) ∧ w = 1 ∧ r = H 4 b) ∨ ((0 ≤ b ∧ b < H 1 3) ∧ w = 2 ∧ r = H 5 b))) := by
  refine jOk.rng (fun hR0 => ?_)
  refine jOk.ofe rfl (Nat.le_of_ble_eq_true rfl) (en_aii_3 (E := E)) ?_
  refine j_aload_n 1 rfl rfl dX4_box_0 ?_
  refine j_iload_n 2 rfl rfl dX4_box_1 ?_
  refine jV1i 5 rfl dX4_box_2 lk_X4_89 rfl rfl (by decide) ( rfl) ( rfl) (s_isBox hb) (fun r2 H1 ⟨eh_, hr2⟩ => ?_)
  obtain rfl := eh_.symm
  refine j_if_eq 17 8 (by decide) rfl dX4_box_5 (by intro hR; first | omega | exact hR _ _ | exact jb_r _ | exact hR0 _ _ | assumption) (fun h5 => ?_) (fun h5 => ?_)
  · refine j_bipush 19 rfl rfl dX4_box_17 ?_
    refine j_ireti dX4_box_19 rfl ?_
    exact ⟨rfl, by omega⟩
  · refine j_iload_n 9 rfl rfl dX4_box_8 ?_
    refine j_if_lt 17 12 (by decide) rfl dX4_box_9 (by intro hR; first | omega | exact hR _ _ | exact jb_r _ | exact hR0 _ _ | assumption) (fun h9 => ?_) (fun h9 => ?_)
    · refine j_bipush 19 rfl rfl dX4_box_17 ?_
      refine j_ireti dX4_box_19 rfl ?_
      exact ⟨rfl, by omega⟩
    · refine j_iload_n 13 rfl rfl dX4_box_12 ?_
      refine j_iconst 14 rfl dX4_box_13 ?_
      refine j_icmp_le 20 17 (by decide) rfl dX4_box_14 (by intro hR; first | omega | exact hR _ _ | exact jb_r _ | exact hR0 _ _ | assumption) (by intro hR; first | omega | exact hR _ _ | exact jb_r _ | exact hR0 _ _ | assumption) (fun h14 => ?_) (fun h14 => ?_)
      · refine j_iload_n 21 rfl rfl dX4_box_20 ?_
        refine j_if_ne 34 24 (by decide) rfl dX4_box_21 (by intro hR; first | omega | exact hR _ _ | exact jb_r _ | exact hR0 _ _ | assumption) (fun h21 => ?_) (fun h21 => ?_)
        · refine j_iload_n 35 rfl rfl dX4_box_34 ?_
          refine j_iconst 36 rfl dX4_box_35 ?_
          refine j_icmp_ne 51 39 (by decide) rfl dX4_box_36 (by intro hR; first | omega | exact hR _ _ | exact jb_r _ | exact hR0 _ _ | assumption) (by intro hR; first | omega | exact hR _ _ | exact jb_r _ | exact hR0 _ _ | assumption) (fun h36 => ?_) (fun h36 => ?_)
          · refine j_aload_n 52 rfl rfl dX4_box_51 ?_
            refine j_getr 55 rfl 0 fl_X4_12 dX4_box_52 (by decide) ( rfl) ( rfl) ?_
            refine j_getr 58 rfl 6 fl_X4_99 dX4_box_55 (by decide) ( rfl) ( rfl) ?_
            refine j_iload_n 59 rfl rfl dX4_box_58 ?_
            refine j_iald 60 rfl dX4_box_59 (by decide) rfl (by decide) rfl (by omega) ?_
            refine j_ireti dX4_box_60 rfl ?_
            exact ⟨rfl, by omega⟩
          · refine j_aload_n 40 rfl rfl dX4_box_39 ?_
            refine j_getr 43 rfl 0 fl_X4_12 dX4_box_40 (by decide) ( rfl) ( rfl) ?_
            refine j_getr 46 rfl 5 fl_X4_96 dX4_box_43 (by decide) ( rfl) ( rfl) ?_
            refine j_iload_n 47 rfl rfl dX4_box_46 ?_
            refine j_iald 48 rfl dX4_box_47 (by decide) rfl (by decide) rfl (by omega) ?_
            refine j_goto 60 (by decide) dX4_box_48 ?_
            refine j_ireti dX4_box_60 rfl ?_
            exact ⟨rfl, by omega⟩
        · refine j_aload_n 25 rfl rfl dX4_box_24 ?_
          refine j_getr 28 rfl 0 fl_X4_12 dX4_box_25 (by decide) ( rfl) ( rfl) ?_
          refine j_getr 31 rfl 4 fl_X4_93 dX4_box_28 (by decide) ( rfl) ( rfl) ?_
          refine j_iload_n 32 rfl rfl dX4_box_31 ?_
          refine j_iald 33 rfl dX4_box_32 (by decide) rfl (by decide) rfl (by omega) ?_
          refine j_ireti dX4_box_33 rfl ?_
          exact ⟨rfl, by omega⟩
      · refine j_bipush 19 rfl rfl dX4_box_17 ?_
        refine j_ireti dX4_box_19 rfl ?_
        exact ⟨rfl, by omega⟩
-- X4_step
theorem s_step {t w : Int} (ht : -2147483648 ≤ t ∧ t ≤ 2147483647) (hw : -2147483648 ≤ w ∧ w ≤ 2147483647) (h : CI H) : jOk E mX4_step [jRF E 0, .int (jI t), .int (jI w)] H (jQi fun r H' => CQ H H' ∧ ((¬ (0 ≤ t ∧ t < 60 ∧ (w = 0 ∨ w = 1)) ∧ r = -2) ∨ ((0 ≤ t ∧ t < 60) ∧ w = 0 ∧ r = pO (cfg H) t) ∨ ((0 ≤ t ∧ t < 60) ∧ w = 1 ∧ r = pU (cfg H) t))) := by
  refine jOk.rng (fun hR0 => ?_)
  refine jOk.ofe rfl (Nat.le_of_ble_eq_true rfl) (en_aii_3 (E := E)) ?_
  refine j_iload_n 1 rfl rfl dX4_step_0 ?_
  refine jS1i 4 rfl dX4_step_1 lk_X4_137 rfl rfl (s_isStep (by omega)) (fun r1 H1 ⟨eh_, hr1⟩ => ?_)
  obtain rfl := eh_.symm
  refine j_if_eq 14 7 (by decide) rfl dX4_step_4 (by intro hR; first | omega | exact hR _ _ | exact jb_r _ | exact hR0 _ _ | assumption) (fun h4 => ?_) (fun h4 => ?_)
  · refine j_bipush 16 rfl rfl dX4_step_14 ?_
    refine j_ireti dX4_step_16 rfl ?_
    first | exact ⟨CQ.refl h, Or.inl ⟨by omega, rfl⟩⟩ | exact ⟨hq, Or.inr (Or.inl ⟨by omega, by omega, (cq_arr hq h10 (by omega) (by omega)).1⟩)⟩ | exact ⟨hq, Or.inr (Or.inr ⟨by omega, by omega, (cq_arr hq h10 (by omega) (by omega)).2⟩)⟩
  · refine j_iload_n 8 rfl rfl dX4_step_7 ?_
    refine jS1i 11 rfl dX4_step_8 lk_X4_140 rfl rfl (s_isEither (by omega)) (fun r8 H1 ⟨eh_, hr8⟩ => ?_)
    obtain rfl := eh_.symm
    refine j_if_ne 17 14 (by decide) rfl dX4_step_11 (by intro hR; first | omega | exact hR _ _ | exact jb_r _ | exact hR0 _ _ | assumption) (fun h11 => ?_) (fun h11 => ?_)
    · refine j_aload_n 18 rfl rfl dX4_step_17 ?_
      refine jV0v 21 rfl dX4_step_18 lk_X4_143 rfl rfl (by decide) ( rfl) ( rfl) (s_runAsTold h) (fun H2 ⟨hq, h10⟩ => ?_)
      refine j_iload_n 22 rfl rfl dX4_step_21 ?_
      refine j_if_ne 37 25 (by decide) rfl dX4_step_22 (by intro hR; first | omega | exact hR _ _ | exact jb_r _ | exact hR0 _ _ | assumption) (fun h22 => ?_) (fun h22 => ?_)
      · refine j_aload_n 38 rfl rfl dX4_step_37 ?_
        refine j_getr 41 rfl 9 fl_X4_52 dX4_step_38 (by decide) ( rfl) ( rfl) ?_
        refine j_getr 44 rfl 8 fl_X4_149 dX4_step_41 (by decide) ( rfl) ( rfl) ?_
        refine j_iload_n 45 rfl rfl dX4_step_44 ?_
        refine j_iald 46 rfl dX4_step_45 (by decide) rfl (by decide) rfl (by omega) ?_
        refine j_ireti dX4_step_46 rfl ?_
        first | exact ⟨CQ.refl h, Or.inl ⟨by omega, rfl⟩⟩ | exact ⟨hq, Or.inr (Or.inl ⟨by omega, by omega, (cq_arr hq h10 (by omega) (by omega)).1⟩)⟩ | exact ⟨hq, Or.inr (Or.inr ⟨by omega, by omega, (cq_arr hq h10 (by omega) (by omega)).2⟩)⟩
      · refine j_aload_n 26 rfl rfl dX4_step_25 ?_
        refine j_getr 29 rfl 9 fl_X4_52 dX4_step_26 (by decide) ( rfl) ( rfl) ?_
        refine j_getr 32 rfl 7 fl_X4_146 dX4_step_29 (by decide) ( rfl) ( rfl) ?_
        refine j_iload_n 33 rfl rfl dX4_step_32 ?_
        refine j_iald 34 rfl dX4_step_33 (by decide) rfl (by decide) rfl (by omega) ?_
        refine j_goto 46 (by decide) dX4_step_34 ?_
        refine j_ireti dX4_step_46 rfl ?_
        first | exact ⟨CQ.refl h, Or.inl ⟨by omega, rfl⟩⟩ | exact ⟨hq, Or.inr (Or.inl ⟨by omega, by omega, (cq_arr hq h10 (by omega) (by omega)).1⟩)⟩ | exact ⟨hq, Or.inr (Or.inr ⟨by omega, by omega, (cq_arr hq h10 (by omega) (by omega)).2⟩)⟩
    · refine j_bipush 16 rfl rfl dX4_step_14 ?_
      refine j_ireti dX4_step_16 rfl ?_
      first | exact ⟨CQ.refl h, Or.inl ⟨by omega, rfl⟩⟩ | exact ⟨hq, Or.inr (Or.inl ⟨by omega, by omega, (cq_arr hq h10 (by omega) (by omega)).1⟩)⟩ | exact ⟨hq, Or.inr (Or.inr ⟨by omega, by omega, (cq_arr hq h10 (by omega) (by omega)).2⟩)⟩
-- X4_spring
theorem s_spring {t b : Int} (ht : -2147483648 ≤ t ∧ t ≤ 2147483647) (hb : -2147483648 ≤ b ∧ b ≤ 2147483647) (h : CI H) : jOk E mX4_spring [jRF E 0, .int (jI t), .int (jI b)] H (jQi fun r H' => CQ H H' ∧ ((¬ (0 ≤ t ∧ t < 60 ∧ 0 ≤ b ∧ b < H 1 3) ∧ r = -2) ∨ ((0 ≤ t ∧ t < 60 ∧ 0 ≤ b ∧ b < H 1 3) ∧ r = H 5 b - sumI (fun s => if bt (pO (cfg H) s) b then 1 else 0) (t + 1)))) := by
  have hn := parsed_n h.1.1 h.1.2.1
  by_cases hok : (0 ≤ t ∧ t < 60 ∧ 0 ≤ b ∧ b < H 1 3)
  rotate_left
  · refine jOk.rng (fun hR0 => ?_)
    refine jOk.ofe rfl (Nat.le_of_ble_eq_true rfl) (en_aii_5 (E := E)) ?_
    refine j_iload_n 1 rfl rfl dX4_spring_0 ?_
    refine jS1i 4 rfl dX4_spring_1 lk_X4_137 rfl rfl (s_isStep (by omega)) (fun r1 H1 ⟨eh_, hr1⟩ => ?_)
    obtain rfl := eh_.symm
    refine j_if_eq 15 7 (by decide) rfl dX4_spring_4 (by intro hR; first | omega | exact hR _ _ | exact jb_r _ | exact hR0 _ _ | assumption) (fun h4 => ?_) (fun h4 => ?_)
    · refine j_bipush 17 rfl rfl dX4_spring_15 ?_
      refine j_ireti dX4_spring_17 rfl ?_
      exact ⟨CQ.refl h, Or.inl ⟨by omega, rfl⟩⟩
    · refine j_aload_n 8 rfl rfl dX4_spring_7 ?_
      refine j_iload_n 9 rfl rfl dX4_spring_8 ?_
      refine jV1i 12 rfl dX4_spring_9 lk_X4_89 rfl rfl (by decide) ( rfl) ( rfl) (s_isBox (by omega)) (fun r9 H1 ⟨eh_, hr9⟩ => ?_)
      obtain rfl := eh_.symm
      refine j_if_ne 18 15 (by decide) rfl dX4_spring_12 (by intro hR; first | omega | exact hR _ _ | exact jb_r _ | exact hR0 _ _ | assumption) (fun h12 => ?_) (fun h12 => ?_)
      · exfalso; omega
      · refine j_bipush 17 rfl rfl dX4_spring_15 ?_
        refine j_ireti dX4_spring_17 rfl ?_
        exact ⟨CQ.refl h, Or.inl ⟨by omega, rfl⟩⟩
  refine jOk.rng (fun hR0 => ?_)
  refine jOk.ofe rfl (Nat.le_of_ble_eq_true rfl) (en_aii_5 (E := E)) ?_
  refine j_iload_n 1 rfl rfl dX4_spring_0 ?_
  refine jS1i 4 rfl dX4_spring_1 lk_X4_137 rfl rfl (s_isStep (by omega)) (fun r1 H1 ⟨eh_, hr1⟩ => ?_)
  obtain rfl := eh_.symm
  refine j_if_eq 15 7 (by decide) rfl dX4_spring_4 (by intro hR; first | omega | exact hR _ _ | exact jb_r _ | exact hR0 _ _ | assumption) (fun h4 => ?_) (fun h4 => ?_)
  · exfalso; omega
  refine j_aload_n 8 rfl rfl dX4_spring_7 ?_
  refine j_iload_n 9 rfl rfl dX4_spring_8 ?_
  refine jV1i 12 rfl dX4_spring_9 lk_X4_89 rfl rfl (by decide) ( rfl) ( rfl) (s_isBox (by omega)) (fun r9 H1 ⟨eh_, hr9⟩ => ?_)
  obtain rfl := eh_.symm
  refine j_if_ne 18 15 (by decide) rfl dX4_spring_12 (by intro hR; first | omega | exact hR _ _ | exact jb_r _ | exact hR0 _ _ | assumption) (fun h12 => ?_) (fun h12 => ?_)
  rotate_left
  · exfalso; omega
  refine j_aload_n 19 rfl rfl dX4_spring_18 ?_
  refine jV0v 22 rfl dX4_spring_19 lk_X4_143 rfl rfl (by decide) ( rfl) ( rfl) (s_runAsTold h) (fun H2 ⟨hq, h10⟩ => ?_)
  refine j_aload_n 23 rfl rfl dX4_spring_22 ?_
  refine j_getr 26 rfl 0 fl_X4_12 dX4_spring_23 (by decide) ( rfl) ( rfl) ?_
  refine j_getr 29 rfl 6 fl_X4_99 dX4_spring_26 (by decide) ( rfl) ( rfl) ?_
  refine j_iload_n 30 rfl rfl dX4_spring_29 ?_
  refine j_iald 31 rfl dX4_spring_30 (by decide) rfl (by decide) rfl (by omega) ?_
  rw [hq.1 5 (by decide) (by decide)]
  refine j_istore_n 32 rfl st_5_3 (by decide) rfl dX4_spring_31 ?_
  refine j_iconst 33 rfl dX4_spring_32 ?_
  refine j_istore 35 rfl st_5_4 (by decide) rfl dX4_spring_33 ?_
  have loop := jUp 0 (t + 1) (fun i => jWP E mX4_spring (jQi fun r H' => CQ H H' ∧ ((¬ (0 ≤ t ∧ t < 60 ∧ 0 ≤ b ∧ b < H 1 3) ∧ r = -2) ∨ ((0 ≤ t ∧ t < 60 ∧ 0 ≤ b ∧ b < H 1 3) ∧ r = H 5 b - sumI (fun s => if bt (pO (cfg H) s) b then 1 else 0) (t + 1)))) 35 [some (jRF E 0), some (.int (jI t)), some (.int (jI b)), some (.int (jI (H 5 b - sumI (fun s => if bt (pO (cfg H) s) b then 1 else 0) i))), some (.int (jI i))] [] H2) ?_ ?_ 0 (by omega) (by omega)
  · rw [sumI_0, Int.sub_zero] at loop
    exact loop
  · refine j_iload 37 rfl rfl dX4_spring_35 ?_
    refine j_iload_n 38 rfl rfl dX4_spring_37 ?_
    refine j_icmp_gt 64 41 (by decide) rfl dX4_spring_38 (by intro hR; first | omega | exact hR _ _ | exact jb_r _ | exact hR0 _ _ | assumption) (by intro hR; first | omega | exact hR _ _ | exact jb_r _ | exact hR0 _ _ | assumption) (fun h2 => ?_) (fun h2 => ?_)
    · refine j_iload_n 65 rfl rfl dX4_spring_64 ?_
      refine j_ireti dX4_spring_65 rfl ?_
      exact ⟨hq, Or.inr ⟨by omega, rfl⟩⟩
    · exfalso; omega
  · intro i h0 h1 ih
    rw [sumI_s _ h0] at ih
    refine j_iload 37 rfl rfl dX4_spring_35 ?_
    refine j_iload_n 38 rfl rfl dX4_spring_37 ?_
    refine j_icmp_gt 64 41 (by decide) rfl dX4_spring_38 (by intro hR; first | omega | exact hR _ _ | exact jb_r _ | exact hR0 _ _ | assumption) (by intro hR; first | omega | exact hR _ _ | exact jb_r _ | exact hR0 _ _ | assumption) (fun h2 => ?_) (fun h2 => ?_)
    · exfalso; omega
    · refine j_iload_n 42 rfl rfl dX4_spring_41 ?_
      refine j_aload_n 43 rfl rfl dX4_spring_42 ?_
      refine j_getr 46 rfl 9 fl_X4_52 dX4_spring_43 (by decide) ( rfl) ( rfl) ?_
      refine j_getr 49 rfl 7 fl_X4_146 dX4_spring_46 (by decide) ( rfl) ( rfl) ?_
      refine j_iload 51 rfl rfl dX4_spring_49 ?_
      refine j_iald 52 rfl dX4_spring_51 (by decide) rfl (by decide) rfl (by omega) ?_
      rw [(cq_arr hq h10 h0 (by omega)).1]
      refine j_iload_n 53 rfl rfl dX4_spring_52 ?_
      refine k_ishr 54 rfl dX4_spring_53 ?_
      refine j_iconst 55 rfl dX4_spring_54 ?_
      refine k_iand 56 rfl dX4_spring_55 ?_
      rw [bt_shr1 (by omega)]
      refine j_isub 57 rfl dX4_spring_56 ?_
      rw [Int.sub_sub]
      refine j_istore_n 58 rfl st_5_3 (by decide) rfl dX4_spring_57 ?_
      refine j_iinc 61 rfl rfl st_5_4 (by decide) rfl dX4_spring_58 ?_
      refine j_goto 35 (by decide) dX4_spring_61 ?_
      exact ih
-- X4_quiet
theorem s_quiet (h : CI H) : jOk E mX4_quiet [jRF E 0] H (jQi fun r H' => CQ H H' ∧ isQuiet (pO (cfg H)) r) := by
  refine jOk.rng (fun hR0 => ?_)
  refine jOk.ofe rfl (Nat.le_of_ble_eq_true rfl) (en_a_2 (E := E)) ?_
  refine j_aload_n 1 rfl rfl dX4_quiet_0 ?_
  refine jV0v 4 rfl dX4_quiet_1 lk_X4_143 rfl rfl (by decide) ( rfl) ( rfl) (s_runAsTold h) (fun H2 ⟨hq, h10⟩ => ?_)
  refine j_bipush 6 rfl rfl dX4_quiet_4 ?_
  refine j_istore_n 7 rfl st_2_1 (by decide) rfl dX4_quiet_6 ?_
  have loop := jUp 0 60 (fun i => (∀ s, 60 - i ≤ s → s < 60 → pO (cfg H) s = 0) → jWP E mX4_quiet (jQi fun r H' => CQ H H' ∧ isQuiet (pO (cfg H)) r) 7 [some (jRF E 0), some (.int (jI (60 - i)))] [] H2) ?_ ?_ 0 (by omega) (by omega)
  · exact loop (fun s a b => by omega)
  · intro hz
    refine j_iload_n 8 rfl rfl dX4_quiet_7 ?_
    refine j_if_le 31 11 (by decide) rfl dX4_quiet_8 (by intro hR; first | omega | exact hR _ _ | exact jb_r _ | exact hR0 _ _ | assumption) (fun h2 => ?_) (fun h2 => ?_)
    · refine j_iload_n 32 rfl rfl dX4_quiet_31 ?_
      refine j_bipush 34 rfl rfl dX4_quiet_32 ?_
      refine j_icmp_ne 41 37 (by decide) rfl dX4_quiet_34 (by intro hR; first | omega | exact hR _ _ | exact jb_r _ | exact hR0 _ _ | assumption) (by intro hR; first | omega | exact hR _ _ | exact jb_r _ | exact hR0 _ _ | assumption) (fun h3 => ?_) (fun h3 => ?_)
      · refine j_iload_n 42 rfl rfl dX4_quiet_41 ?_
        refine j_ireti dX4_quiet_42 rfl ?_
        exact ⟨hq, 0, by omega, fun s a b => hz s (by omega) b, Or.inl rfl, by rw [if_neg (by omega)]; rfl⟩
      · exfalso; omega
    · exfalso; omega
  · intro i h0 h1 ih hz
    refine j_iload_n 8 rfl rfl dX4_quiet_7 ?_
    refine j_if_le 31 11 (by decide) rfl dX4_quiet_8 (by intro hR; first | omega | exact hR _ _ | exact jb_r _ | exact hR0 _ _ | assumption) (fun h2 => ?_) (fun h2 => ?_)
    · exfalso; omega
    · refine j_aload_n 12 rfl rfl dX4_quiet_11 ?_
      refine j_getr 15 rfl 9 fl_X4_52 dX4_quiet_12 (by decide) ( rfl) ( rfl) ?_
      refine j_getr 18 rfl 7 fl_X4_146 dX4_quiet_15 (by decide) ( rfl) ( rfl) ?_
      refine j_iload_n 19 rfl rfl dX4_quiet_18 ?_
      refine j_iconst 20 rfl dX4_quiet_19 ?_
      refine j_isub 21 rfl dX4_quiet_20 ?_
      refine j_iald 22 rfl dX4_quiet_21 (by decide) rfl (by decide) rfl (by omega) ?_
      have hr := pO_r (cfg_ok h.1).1 (60 - i - 1)
      rw [(cq_arr hq h10 (by omega) (by omega)).1]
      refine j_if_ne 31 25 (by decide) rfl dX4_quiet_22 (by intro hR; first | omega | exact hR _ _ | exact jb_r _ | exact hR0 _ _ | assumption) (fun h3 => ?_) (fun h3 => ?_)
      · refine j_iload_n 32 rfl rfl dX4_quiet_31 ?_
        refine j_bipush 34 rfl rfl dX4_quiet_32 ?_
        refine j_icmp_ne 41 37 (by decide) rfl dX4_quiet_34 (by intro hR; first | omega | exact hR _ _ | exact jb_r _ | exact hR0 _ _ | assumption) (by intro hR; first | omega | exact hR _ _ | exact jb_r _ | exact hR0 _ _ | assumption) (fun h4 => ?_) (fun h4 => ?_)
        · refine j_iload_n 42 rfl rfl dX4_quiet_41 ?_
          refine j_ireti dX4_quiet_42 rfl ?_
          exact ⟨hq, 60 - i, by omega, hz, Or.inr h3, by rw [if_neg (by omega)]⟩
        · refine j_iconst 38 rfl dX4_quiet_37 ?_
          refine j_goto 42 (by decide) dX4_quiet_38 ?_
          refine j_ireti dX4_quiet_42 rfl ?_
          exact ⟨hq, 60 - i, by omega, hz, Or.inr h3, by rw [if_pos (by omega)]⟩
      · refine j_iinc 28 rfl rfl st_2_1 (by decide) rfl dX4_quiet_25 ?_
        refine j_goto 7 (by decide) dX4_quiet_28 ?_
        rw [show 60 - i + -1 = 60 - (i + 1) by omega]
        refine ih (fun s a b => ?_)
        by_cases hs : s = 60 - i - 1
        · subst hs; exact h3
        · exact hz s (by omega) b
-- X4_loudest
theorem s_loudest {w : Int} (hw : -2147483648 ≤ w ∧ w ≤ 2147483647) (h : CI H) : jOk E mX4_loudest [jRF E 0, .int (jI w)] H (jQi fun r H' => CQ H H' ∧ ((¬ (w = 0 ∨ w = 1) ∧ r = -2) ∨ ((w = 0 ∨ w = 1) ∧ isLoud (pO (cfg H)) w r))) := by
  by_cases hok : (w = 0 ∨ w = 1)
  rotate_left
  · refine jOk.rng (fun hR0 => ?_)
    refine jOk.ofe rfl (Nat.le_of_ble_eq_true rfl) (en_ai_6 (E := E)) ?_
    refine j_iload_n 1 rfl rfl dX4_loudest_0 ?_
    refine jS1i 4 rfl dX4_loudest_1 lk_X4_140 rfl rfl (s_isEither (by omega)) (fun r1 H1 ⟨eh_, hr1⟩ => ?_)
    obtain rfl := eh_.symm
    refine j_if_ne 10 7 (by decide) rfl dX4_loudest_4 (by intro hR; first | omega | exact hR _ _ | exact jb_r _ | exact hR0 _ _ | assumption) (fun h4 => ?_) (fun h4 => ?_)
    · exfalso; omega
    · refine j_bipush 9 rfl rfl dX4_loudest_7 ?_
      refine j_ireti dX4_loudest_9 rfl ?_
      exact ⟨CQ.refl h, Or.inl ⟨by omega, rfl⟩⟩
  refine jOk.rng (fun hR0 => ?_)
  refine jOk.ofe rfl (Nat.le_of_ble_eq_true rfl) (en_ai_6 (E := E)) ?_
  refine j_iload_n 1 rfl rfl dX4_loudest_0 ?_
  refine jS1i 4 rfl dX4_loudest_1 lk_X4_140 rfl rfl (s_isEither (by omega)) (fun r1 H1 ⟨eh_, hr1⟩ => ?_)
  obtain rfl := eh_.symm
  refine j_if_ne 10 7 (by decide) rfl dX4_loudest_4 (by intro hR; first | omega | exact hR _ _ | exact jb_r _ | exact hR0 _ _ | assumption) (fun h4 => ?_) (fun h4 => ?_)
  rotate_left
  · exfalso; omega
  refine j_aload_n 11 rfl rfl dX4_loudest_10 ?_
  refine jV0v 14 rfl dX4_loudest_11 lk_X4_143 rfl rfl (by decide) ( rfl) ( rfl) (s_runAsTold h) (fun H2 ⟨hq, h10⟩ => ?_)
  refine j_iconst 15 rfl dX4_loudest_14 ?_
  refine j_istore_n 16 rfl st_6_2 (by decide) rfl dX4_loudest_15 ?_
  refine j_iconst 17 rfl dX4_loudest_16 ?_
  refine j_istore_n 18 rfl st_6_3 (by decide) rfl dX4_loudest_17 ?_
  refine j_iconst 19 rfl dX4_loudest_18 ?_
  refine j_istore 21 rfl st_6_4 (by decide) rfl dX4_loudest_19 ?_
  have loop := jUp 0 60 (fun i => ∀ l m x5, ((l = -1 ∧ m = 0 ∧ ∀ s, 0 ≤ s → s < i → oc (pO (cfg H) s) = 0) ∨ (0 ≤ l ∧ l < i ∧ m = oc (pO (cfg H) l) ∧ 0 < m ∧ (∀ s, 0 ≤ s → s < i → oc (pO (cfg H) s) ≤ m) ∧ (∀ s, 0 ≤ s → s < l → oc (pO (cfg H) s) < m))) → jWP E mX4_loudest (jQi fun r H' => CQ H H' ∧ ((¬ (w = 0 ∨ w = 1) ∧ r = -2) ∨ ((w = 0 ∨ w = 1) ∧ isLoud (pO (cfg H)) w r))) 21 [some (jRF E 0), some (.int (jI w)), some (.int (jI l)), some (.int (jI m)), some (.int (jI i)), x5] [] H2) ?_ ?_ 0 (by omega) (by omega)
  · exact loop (-1) 0 none (Or.inl ⟨rfl, rfl, fun s a b => by omega⟩)
  · intro l m x5 hI
    refine j_iload 23 rfl rfl dX4_loudest_21 ?_
    refine j_bipush 25 rfl rfl dX4_loudest_23 ?_
    refine j_icmp_ge 61 28 (by decide) rfl dX4_loudest_25 (by intro hR; first | omega | exact hR _ _ | exact jb_r _ | exact hR0 _ _ | assumption) (by intro hR; first | omega | exact hR _ _ | exact jb_r _ | exact hR0 _ _ | assumption) (fun h2 => ?_) (fun h2 => ?_)
    · have fin : ∀ r, r = (if l = -1 then -1 else if w = 0 then l else m) → isLoud (pO (cfg H)) w r := by
        intro r hr
        rcases hI with ⟨i1, i2, i3⟩ | ⟨i1, i2, i3, i4, i5, i6⟩
        · refine ⟨0, by omega, fun s a b => by rw [i3 s a b, i3 0 (by omega) (by omega)]; exact Int.le_refl 0, fun s a b => by omega, ?_⟩
          rw [hr, if_pos i1, if_pos (i3 0 (by omega) (by omega))]
        · refine ⟨l, by omega, fun s a b => by rw [← i3]; exact i5 s a b, fun s a b => by rw [← i3]; exact i6 s a b, ?_⟩
          rw [hr, if_neg (show ¬ l = -1 by omega), if_neg (show ¬ oc (pO (cfg H) l) = 0 by omega), i3]
      have hlr : -1 ≤ l ∧ l < 60 := by omega
      refine j_iload_n 62 rfl rfl dX4_loudest_61 ?_
      refine j_iconst 63 rfl dX4_loudest_62 ?_
      refine j_icmp_eq 70 66 (by decide) rfl dX4_loudest_63 (by intro hR; first | omega | exact hR _ _ | exact jb_r _ | exact hR0 _ _ | assumption) (by intro hR; first | omega | exact hR _ _ | exact jb_r _ | exact hR0 _ _ | assumption) (fun h63 => ?_) (fun h63 => ?_)
      · refine j_iload_n 71 rfl rfl dX4_loudest_70 ?_
        refine j_goto 75 (by decide) dX4_loudest_71 ?_
        refine j_ireti dX4_loudest_75 rfl ?_
        first | exact ⟨hq, Or.inr ⟨by omega, fin _ (by rw [if_pos (by omega)]; omega)⟩⟩ | exact ⟨hq, Or.inr ⟨by omega, fin _ (by rw [if_neg (by omega), if_pos (by omega)])⟩⟩ | exact ⟨hq, Or.inr ⟨by omega, fin _ (by rw [if_neg (by omega), if_neg (by omega)])⟩⟩
      · refine j_iload_n 67 rfl rfl dX4_loudest_66 ?_
        refine j_if_ne 74 70 (by decide) rfl dX4_loudest_67 (by intro hR; first | omega | exact hR _ _ | exact jb_r _ | exact hR0 _ _ | assumption) (fun h67 => ?_) (fun h67 => ?_)
        · refine j_iload_n 75 rfl rfl dX4_loudest_74 ?_
          refine j_ireti dX4_loudest_75 rfl ?_
          first | exact ⟨hq, Or.inr ⟨by omega, fin _ (by rw [if_pos (by omega)]; omega)⟩⟩ | exact ⟨hq, Or.inr ⟨by omega, fin _ (by rw [if_neg (by omega), if_pos (by omega)])⟩⟩ | exact ⟨hq, Or.inr ⟨by omega, fin _ (by rw [if_neg (by omega), if_neg (by omega)])⟩⟩
        · refine j_iload_n 71 rfl rfl dX4_loudest_70 ?_
          refine j_goto 75 (by decide) dX4_loudest_71 ?_
          refine j_ireti dX4_loudest_75 rfl ?_
          first | exact ⟨hq, Or.inr ⟨by omega, fin _ (by rw [if_pos (by omega)]; omega)⟩⟩ | exact ⟨hq, Or.inr ⟨by omega, fin _ (by rw [if_neg (by omega), if_pos (by omega)])⟩⟩ | exact ⟨hq, Or.inr ⟨by omega, fin _ (by rw [if_neg (by omega), if_neg (by omega)])⟩⟩
    · exfalso; omega
  · intro i h0 h1 ih l m x5 hI
    have hoc := oc_r (pO (cfg H) i)
    have hmr : 0 ≤ m ∧ m ≤ 9 := by
      rcases hI with ⟨i1, i2, i3⟩ | ⟨i1, i2, i3, i4, i5, i6⟩
      · omega
      · have := oc_r (pO (cfg H) l); omega
    refine j_iload 23 rfl rfl dX4_loudest_21 ?_
    refine j_bipush 25 rfl rfl dX4_loudest_23 ?_
    refine j_icmp_ge 61 28 (by decide) rfl dX4_loudest_25 (by intro hR; first | omega | exact hR _ _ | exact jb_r _ | exact hR0 _ _ | assumption) (by intro hR; first | omega | exact hR _ _ | exact jb_r _ | exact hR0 _ _ | assumption) (fun h2 => ?_) (fun h2 => ?_)
    · exfalso; omega
    · refine j_aload_n 29 rfl rfl dX4_loudest_28 ?_
      refine j_getr 32 rfl 9 fl_X4_52 dX4_loudest_29 (by decide) ( rfl) ( rfl) ?_
      refine j_getr 35 rfl 7 fl_X4_146 dX4_loudest_32 (by decide) ( rfl) ( rfl) ?_
      refine j_iload 37 rfl rfl dX4_loudest_35 ?_
      refine j_iald 38 rfl dX4_loudest_37 (by decide) rfl (by decide) rfl (by omega) ?_
      rw [(cq_arr hq h10 h0 (by omega)).1]
      refine jS1i 41 rfl dX4_loudest_38 lk_X4_152 rfl rfl (s_bitCount (pO_r (cfg_ok h.1).1 i)) (fun r H3 ⟨e, hr⟩ => ?_)
      subst e
      subst hr
      refine j_istore 43 rfl st_6_5 (by decide) rfl dX4_loudest_41 ?_
      refine j_iload 45 rfl rfl dX4_loudest_43 ?_
      refine j_iload_n 46 rfl rfl dX4_loudest_45 ?_
      refine j_icmp_le 55 49 (by decide) rfl dX4_loudest_46 (by intro hR; first | omega | exact hR _ _ | exact jb_r _ | exact hR0 _ _ | assumption) (by intro hR; first | omega | exact hR _ _ | exact jb_r _ | exact hR0 _ _ | assumption) (fun h3 => ?_) (fun h3 => ?_)
      · refine j_iinc 58 rfl rfl st_6_4 (by decide) rfl dX4_loudest_55 ?_
        refine j_goto 21 (by decide) dX4_loudest_58 ?_
        refine ih l m _ ?_
        rcases hI with ⟨i1, i2, i3⟩ | ⟨i1, i2, i3, i4, i5, i6⟩
        · refine Or.inl ⟨i1, i2, fun s a b => ?_⟩
          by_cases hs : s = i
          · subst hs; omega
          · exact i3 s a (by omega)
        · refine Or.inr ⟨i1, by omega, i3, i4, fun s a b => ?_, i6⟩
          by_cases hs : s = i
          · subst hs; exact h3
          · exact i5 s a (by omega)
      · refine j_iload 51 rfl rfl dX4_loudest_49 ?_
        refine j_istore_n 52 rfl st_6_3 (by decide) rfl dX4_loudest_51 ?_
        refine j_iload 54 rfl rfl dX4_loudest_52 ?_
        refine j_istore_n 55 rfl st_6_2 (by decide) rfl dX4_loudest_54 ?_
        refine j_iinc 58 rfl rfl st_6_4 (by decide) rfl dX4_loudest_55 ?_
        refine j_goto 21 (by decide) dX4_loudest_58 ?_
        refine ih i _ _ (Or.inr ⟨h0, by omega, rfl, by omega, fun s a b => ?_, fun s a b => ?_⟩)
        · by_cases hs : s = i
          · subst hs; exact Int.le_refl _
          · rcases hI with ⟨i1, i2, i3⟩ | ⟨i1, i2, i3, i4, i5, i6⟩
            · have := i3 s a (by omega); omega
            · have := i5 s a (by omega); omega
        · rcases hI with ⟨i1, i2, i3⟩ | ⟨i1, i2, i3, i4, i5, i6⟩
          · have := i3 s a (by omega); omega
          · have := i5 s a (by omega); omega
-- X4_first
theorem s_first {b : Int} (hb : -2147483648 ≤ b ∧ b ≤ 2147483647) (h : CI H) : jOk E mX4_first [jRF E 0, .int (jI b)] H (jQi fun r H' => CQ H H' ∧ ((¬ (0 ≤ b ∧ b < H 1 3) ∧ r = -2) ∨ ((0 ≤ b ∧ b < H 1 3) ∧ isFst (fun s => bt (pO (cfg H) s) b = true) 0 60 r))) := by
  have hn := parsed_n h.1.1 h.1.2.1
  by_cases hok : (0 ≤ b ∧ b < H 1 3)
  rotate_left
  · refine jOk.rng (fun hR0 => ?_)
    refine jOk.ofe rfl (Nat.le_of_ble_eq_true rfl) (en_ai_3 (E := E)) ?_
    refine j_aload_n 1 rfl rfl dX4_first_0 ?_
    refine j_iload_n 2 rfl rfl dX4_first_1 ?_
    refine jV1i 5 rfl dX4_first_2 lk_X4_89 rfl rfl (by decide) ( rfl) ( rfl) (s_isBox (by omega)) (fun r2 H1 ⟨eh_, hr2⟩ => ?_)
    obtain rfl := eh_.symm
    refine j_if_ne 11 8 (by decide) rfl dX4_first_5 (by intro hR; first | omega | exact hR _ _ | exact jb_r _ | exact hR0 _ _ | assumption) (fun h5 => ?_) (fun h5 => ?_)
    · exfalso; omega
    · refine j_bipush 10 rfl rfl dX4_first_8 ?_
      refine j_ireti dX4_first_10 rfl ?_
      exact ⟨CQ.refl h, Or.inl ⟨by omega, rfl⟩⟩
  refine jOk.rng (fun hR0 => ?_)
  refine jOk.ofe rfl (Nat.le_of_ble_eq_true rfl) (en_ai_3 (E := E)) ?_
  refine j_aload_n 1 rfl rfl dX4_first_0 ?_
  refine j_iload_n 2 rfl rfl dX4_first_1 ?_
  refine jV1i 5 rfl dX4_first_2 lk_X4_89 rfl rfl (by decide) ( rfl) ( rfl) (s_isBox (by omega)) (fun r2 H1 ⟨eh_, hr2⟩ => ?_)
  obtain rfl := eh_.symm
  refine j_if_ne 11 8 (by decide) rfl dX4_first_5 (by intro hR; first | omega | exact hR _ _ | exact jb_r _ | exact hR0 _ _ | assumption) (fun h5 => ?_) (fun h5 => ?_)
  rotate_left
  · exfalso; omega
  refine j_aload_n 12 rfl rfl dX4_first_11 ?_
  refine jV0v 15 rfl dX4_first_12 lk_X4_143 rfl rfl (by decide) ( rfl) ( rfl) (s_runAsTold h) (fun H2 ⟨hq, h10⟩ => ?_)
  refine j_iconst 16 rfl dX4_first_15 ?_
  refine j_istore_n 17 rfl st_3_2 (by decide) rfl dX4_first_16 ?_
  have loop := jUp 0 60 (fun i => (∀ q, 0 ≤ q → q < i → ¬ bt (pO (cfg H) q) b = true) → jWP E mX4_first (jQi fun r H' => CQ H H' ∧ ((¬ (0 ≤ b ∧ b < H 1 3) ∧ r = -2) ∨ ((0 ≤ b ∧ b < H 1 3) ∧ isFst (fun s => bt (pO (cfg H) s) b = true) 0 60 r))) 17 [some (jRF E 0), some (.int (jI b)), some (.int (jI i))] [] H2) ?_ ?_ 0 (by omega) (by omega)
  · exact loop (fun q a c => by omega)
  · intro hz
    refine j_iload_n 18 rfl rfl dX4_first_17 ?_
    refine j_bipush 20 rfl rfl dX4_first_18 ?_
    refine j_icmp_ge 47 23 (by decide) rfl dX4_first_20 (by intro hR; first | omega | exact hR _ _ | exact jb_r _ | exact hR0 _ _ | assumption) (by intro hR; first | omega | exact hR _ _ | exact jb_r _ | exact hR0 _ _ | assumption) (fun h2 => ?_) (fun h2 => ?_)
    · refine j_iconst 48 rfl dX4_first_47 ?_
      refine j_ireti dX4_first_48 rfl ?_
      exact ⟨hq, Or.inr ⟨by omega, Or.inr ⟨hz, rfl⟩⟩⟩
    · exfalso; omega
  · intro i h0 h1 ih hz
    refine j_iload_n 18 rfl rfl dX4_first_17 ?_
    refine j_bipush 20 rfl rfl dX4_first_18 ?_
    refine j_icmp_ge 47 23 (by decide) rfl dX4_first_20 (by intro hR; first | omega | exact hR _ _ | exact jb_r _ | exact hR0 _ _ | assumption) (by intro hR; first | omega | exact hR _ _ | exact jb_r _ | exact hR0 _ _ | assumption) (fun h2 => ?_) (fun h2 => ?_)
    · exfalso; omega
    · refine j_aload_n 24 rfl rfl dX4_first_23 ?_
      refine j_getr 27 rfl 9 fl_X4_52 dX4_first_24 (by decide) ( rfl) ( rfl) ?_
      refine j_getr 30 rfl 7 fl_X4_146 dX4_first_27 (by decide) ( rfl) ( rfl) ?_
      refine j_iload_n 31 rfl rfl dX4_first_30 ?_
      refine j_iald 32 rfl dX4_first_31 (by decide) rfl (by decide) rfl (by omega) ?_
      rw [(cq_arr hq h10 h0 (by omega)).1]
      refine j_iload_n 33 rfl rfl dX4_first_32 ?_
      refine k_ishr 34 rfl dX4_first_33 ?_
      refine j_iconst 35 rfl dX4_first_34 ?_
      refine k_iand 36 rfl dX4_first_35 ?_
      rw [bt_shr1 (by omega)]
      cases hx : bt (pO (cfg H) i) b with
      | true =>
        rw [if_pos rfl]
        refine j_if_eq 41 39 (by decide) rfl dX4_first_36 (by intro hR; first | omega | exact hR _ _ | exact jb_r _ | exact hR0 _ _ | assumption) (fun h3 => ?_) (fun h3 => ?_)
        · exfalso; omega
        · refine j_iload_n 40 rfl rfl dX4_first_39 ?_
          refine j_ireti dX4_first_40 rfl ?_
          exact ⟨hq, Or.inr ⟨by omega, Or.inl ⟨h0, h1, hx, hz⟩⟩⟩
      | false =>
        rw [if_neg (by simp)]
        refine j_if_eq 41 39 (by decide) rfl dX4_first_36 (by intro hR; first | omega | exact hR _ _ | exact jb_r _ | exact hR0 _ _ | assumption) (fun h3 => ?_) (fun h3 => ?_)
        · refine j_iinc 44 rfl rfl st_3_2 (by decide) rfl dX4_first_41 ?_
          refine j_goto 17 (by decide) dX4_first_44 ?_
          refine ih (fun q a c => ?_)
          by_cases hs : q = i
          · subst hs; rw [hx]; simp
          · exact hz q a (by omega)
        · exfalso; omega
-- X4_together
theorem s_together {a b : Int} (ha : -2147483648 ≤ a ∧ a ≤ 2147483647) (hb : -2147483648 ≤ b ∧ b ≤ 2147483647) (h : CI H) : jOk E mX4_together [jRF E 0, .int (jI a), .int (jI b)] H (jQi fun r H' => CQ H H' ∧ ((¬ (0 ≤ a ∧ a < H 1 3 ∧ 0 ≤ b ∧ b < H 1 3 ∧ a ≠ b) ∧ r = -2) ∨ ((0 ≤ a ∧ a < H 1 3 ∧ 0 ≤ b ∧ b < H 1 3 ∧ a ≠ b) ∧ r = sumI (fun s => if bt (pU (cfg H) s) a && bt (pU (cfg H) s) b then 1 else 0) 60))) := by
  have hn := parsed_n h.1.1 h.1.2.1
  by_cases hok : (0 ≤ a ∧ a < H 1 3 ∧ 0 ≤ b ∧ b < H 1 3 ∧ a ≠ b)
  rotate_left
  · refine jOk.rng (fun hR0 => ?_)
    refine jOk.ofe rfl (Nat.le_of_ble_eq_true rfl) (en_aii_6 (E := E)) ?_
    refine j_aload_n 1 rfl rfl dX4_together_0 ?_
    refine j_iload_n 2 rfl rfl dX4_together_1 ?_
    refine jV1i 5 rfl dX4_together_2 lk_X4_89 rfl rfl (by decide) ( rfl) ( rfl) (s_isBox (by omega)) (fun r2 H1 ⟨eh_, hr2⟩ => ?_)
    obtain rfl := eh_.symm
    refine j_if_eq 21 8 (by decide) rfl dX4_together_5 (by intro hR; first | omega | exact hR _ _ | exact jb_r _ | exact hR0 _ _ | assumption) (fun h5 => ?_) (fun h5 => ?_)
    · refine j_bipush 23 rfl rfl dX4_together_21 ?_
      refine j_ireti dX4_together_23 rfl ?_
      exact ⟨CQ.refl h, Or.inl ⟨by omega, rfl⟩⟩
    · refine j_aload_n 9 rfl rfl dX4_together_8 ?_
      refine j_iload_n 10 rfl rfl dX4_together_9 ?_
      refine jV1i 13 rfl dX4_together_10 lk_X4_89 rfl rfl (by decide) ( rfl) ( rfl) (s_isBox (by omega)) (fun r10 H1 ⟨eh_, hr10⟩ => ?_)
      obtain rfl := eh_.symm
      refine j_if_eq 21 16 (by decide) rfl dX4_together_13 (by intro hR; first | omega | exact hR _ _ | exact jb_r _ | exact hR0 _ _ | assumption) (fun h13 => ?_) (fun h13 => ?_)
      · refine j_bipush 23 rfl rfl dX4_together_21 ?_
        refine j_ireti dX4_together_23 rfl ?_
        exact ⟨CQ.refl h, Or.inl ⟨by omega, rfl⟩⟩
      · refine j_iload_n 17 rfl rfl dX4_together_16 ?_
        refine j_iload_n 18 rfl rfl dX4_together_17 ?_
        refine j_icmp_ne 24 21 (by decide) rfl dX4_together_18 (by intro hR; first | omega | exact hR _ _ | exact jb_r _ | exact hR0 _ _ | assumption) (by intro hR; first | omega | exact hR _ _ | exact jb_r _ | exact hR0 _ _ | assumption) (fun h18 => ?_) (fun h18 => ?_)
        · exfalso; omega
        · refine j_bipush 23 rfl rfl dX4_together_21 ?_
          refine j_ireti dX4_together_23 rfl ?_
          exact ⟨CQ.refl h, Or.inl ⟨by omega, rfl⟩⟩
  refine jOk.rng (fun hR0 => ?_)
  refine jOk.ofe rfl (Nat.le_of_ble_eq_true rfl) (en_aii_6 (E := E)) ?_
  refine j_aload_n 1 rfl rfl dX4_together_0 ?_
  refine j_iload_n 2 rfl rfl dX4_together_1 ?_
  refine jV1i 5 rfl dX4_together_2 lk_X4_89 rfl rfl (by decide) ( rfl) ( rfl) (s_isBox (by omega)) (fun r2 H1 ⟨eh_, hr2⟩ => ?_)
  obtain rfl := eh_.symm
  refine j_if_eq 21 8 (by decide) rfl dX4_together_5 (by intro hR; first | omega | exact hR _ _ | exact jb_r _ | exact hR0 _ _ | assumption) (fun h5 => ?_) (fun h5 => ?_)
  · exfalso; omega
  refine j_aload_n 9 rfl rfl dX4_together_8 ?_
  refine j_iload_n 10 rfl rfl dX4_together_9 ?_
  refine jV1i 13 rfl dX4_together_10 lk_X4_89 rfl rfl (by decide) ( rfl) ( rfl) (s_isBox (by omega)) (fun r10 H1 ⟨eh_, hr10⟩ => ?_)
  obtain rfl := eh_.symm
  refine j_if_eq 21 16 (by decide) rfl dX4_together_13 (by intro hR; first | omega | exact hR _ _ | exact jb_r _ | exact hR0 _ _ | assumption) (fun h13 => ?_) (fun h13 => ?_)
  · exfalso; omega
  refine j_iload_n 17 rfl rfl dX4_together_16 ?_
  refine j_iload_n 18 rfl rfl dX4_together_17 ?_
  refine j_icmp_ne 24 21 (by decide) rfl dX4_together_18 (by intro hR; first | omega | exact hR _ _ | exact jb_r _ | exact hR0 _ _ | assumption) (by intro hR; first | omega | exact hR _ _ | exact jb_r _ | exact hR0 _ _ | assumption) (fun h18 => ?_) (fun h18 => ?_)
  rotate_left
  · exfalso; omega
  refine j_aload_n 25 rfl rfl dX4_together_24 ?_
  refine jV0v 28 rfl dX4_together_25 lk_X4_143 rfl rfl (by decide) ( rfl) ( rfl) (s_runAsTold h) (fun H2 ⟨hq, h10⟩ => ?_)
  refine j_iconst 29 rfl dX4_together_28 ?_
  refine j_iload_n 30 rfl rfl dX4_together_29 ?_
  refine k_ishl 31 rfl dX4_together_30 ?_
  refine j_iconst 32 rfl dX4_together_31 ?_
  refine j_iload_n 33 rfl rfl dX4_together_32 ?_
  refine k_ishl 34 rfl dX4_together_33 ?_
  refine k_ior 35 rfl dX4_together_34 ?_
  refine j_istore_n 36 rfl st_6_3 (by decide) rfl dX4_together_35 ?_
  refine j_iconst 37 rfl dX4_together_36 ?_
  refine j_istore 39 rfl st_6_4 (by decide) rfl dX4_together_37 ?_
  refine j_iconst 40 rfl dX4_together_39 ?_
  refine j_istore 42 rfl st_6_5 (by decide) rfl dX4_together_40 ?_
  have loop := jUp 0 60 (fun i => jWP E mX4_together (jQi fun r H' => CQ H H' ∧ ((¬ (0 ≤ a ∧ a < H 1 3 ∧ 0 ≤ b ∧ b < H 1 3 ∧ a ≠ b) ∧ r = -2) ∨ ((0 ≤ a ∧ a < H 1 3 ∧ 0 ≤ b ∧ b < H 1 3 ∧ a ≠ b) ∧ r = sumI (fun s => if bt (pU (cfg H) s) a && bt (pU (cfg H) s) b then 1 else 0) 60))) 42 [some (jRF E 0), some (.int (jI a)), some (.int (jI b)), some (.int (jI (bOr (bShl 1 a) (bShl 1 b)))), some (.int (jI (sumI (fun s => if bt (pU (cfg H) s) a && bt (pU (cfg H) s) b then 1 else 0) i))), some (.int (jI i))] [] H2) ?_ ?_ 0 (by omega) (by omega)
  · exact loop
  · refine j_iload 44 rfl rfl dX4_together_42 ?_
    refine j_bipush 46 rfl rfl dX4_together_44 ?_
    refine j_icmp_ge 74 49 (by decide) rfl dX4_together_46 (by intro hR; first | omega | exact hR _ _ | exact jb_r _ | exact hR0 _ _ | assumption) (by intro hR; first | omega | exact hR _ _ | exact jb_r _ | exact hR0 _ _ | assumption) (fun h2 => ?_) (fun h2 => ?_)
    · refine j_iload 76 rfl rfl dX4_together_74 ?_
      refine j_ireti dX4_together_76 rfl ?_
      exact ⟨hq, Or.inr ⟨by omega, rfl⟩⟩
    · exfalso; omega
  · intro i h0 h1 ih
    rw [sumI_s _ h0] at ih
    have hbb := both_bt (x := pU (cfg H) i) (a := a) (b := b) (by omega) (by omega)
    refine j_iload 44 rfl rfl dX4_together_42 ?_
    refine j_bipush 46 rfl rfl dX4_together_44 ?_
    refine j_icmp_ge 74 49 (by decide) rfl dX4_together_46 (by intro hR; first | omega | exact hR _ _ | exact jb_r _ | exact hR0 _ _ | assumption) (by intro hR; first | omega | exact hR _ _ | exact jb_r _ | exact hR0 _ _ | assumption) (fun h2 => ?_) (fun h2 => ?_)
    · exfalso; omega
    · refine j_aload_n 50 rfl rfl dX4_together_49 ?_
      refine j_getr 53 rfl 9 fl_X4_52 dX4_together_50 (by decide) ( rfl) ( rfl) ?_
      refine j_getr 56 rfl 8 fl_X4_149 dX4_together_53 (by decide) ( rfl) ( rfl) ?_
      refine j_iload 58 rfl rfl dX4_together_56 ?_
      refine j_iald 59 rfl dX4_together_58 (by decide) rfl (by decide) rfl (by omega) ?_
      rw [(cq_arr hq h10 h0 (by omega)).2]
      refine j_iload_n 60 rfl rfl dX4_together_59 ?_
      refine k_iand 61 rfl dX4_together_60 ?_
      refine j_iload_n 62 rfl rfl dX4_together_61 ?_
      refine j_icmp_ne 68 65 (by decide) rfl dX4_together_62 (by intro hR; first | omega | exact hR _ _ | exact jb_r _ | exact hR0 _ _ | assumption) (by intro hR; first | omega | exact hR _ _ | exact jb_r _ | exact hR0 _ _ | assumption) (fun h3 => ?_) (fun h3 => ?_)
      · have : (bt (pU (cfg H) i) a && bt (pU (cfg H) i) b) = false := by
          cases hx : bt (pU (cfg H) i) a <;> cases hy : bt (pU (cfg H) i) b <;> simp_all
        rw [this] at ih
        simp only [Bool.false_eq_true, if_false, Int.add_zero] at ih
        refine j_iinc 71 rfl rfl st_6_5 (by decide) rfl dX4_together_68 ?_
        refine j_goto 42 (by decide) dX4_together_71 ?_
        exact ih
      · have : (bt (pU (cfg H) i) a && bt (pU (cfg H) i) b) = true := by
          rw [Bool.and_eq_true]; exact hbb.mp h3
        rw [this] at ih
        simp only [if_true] at ih
        refine j_iinc 68 rfl rfl st_6_4 (by decide) rfl dX4_together_65 ?_
        refine j_iinc 71 rfl rfl st_6_5 (by decide) rfl dX4_together_68 ?_
        refine j_goto 42 (by decide) dX4_together_71 ?_
        exact ih
-- X4_hears
theorem s_hears {b t : Int} (hb : -2147483648 ≤ b ∧ b ≤ 2147483647) (ht : -2147483648 ≤ t ∧ t ≤ 2147483647) (h : CI H) : jOk E mX4_hears [jRF E 0, .int (jI b), .int (jI t)] H (jQi fun r H' => CQ H H' ∧ ((¬ (0 ≤ b ∧ b < H 1 3 ∧ 0 ≤ t ∧ t < 60) ∧ r = -2) ∨ ((0 ≤ b ∧ b < H 1 3 ∧ 0 ≤ t ∧ t < 60) ∧ r = hv (pU (cfg H)) (bShl 1 b) t 60))) := by
  have hn := parsed_n h.1.1 h.1.2.1
  by_cases hok : (0 ≤ b ∧ b < H 1 3 ∧ 0 ≤ t ∧ t < 60)
  rotate_left
  · refine jOk.rng (fun hR0 => ?_)
    refine jOk.ofe rfl (Nat.le_of_ble_eq_true rfl) (en_aii_5 (E := E)) ?_
    refine j_aload_n 1 rfl rfl dX4_hears_0 ?_
    refine j_iload_n 2 rfl rfl dX4_hears_1 ?_
    refine jV1i 5 rfl dX4_hears_2 lk_X4_89 rfl rfl (by decide) ( rfl) ( rfl) (s_isBox (by omega)) (fun r2 H1 ⟨eh_, hr2⟩ => ?_)
    obtain rfl := eh_.symm
    refine j_if_eq 15 8 (by decide) rfl dX4_hears_5 (by intro hR; first | omega | exact hR _ _ | exact jb_r _ | exact hR0 _ _ | assumption) (fun h5 => ?_) (fun h5 => ?_)
    · refine j_bipush 17 rfl rfl dX4_hears_15 ?_
      refine j_ireti dX4_hears_17 rfl ?_
      exact ⟨CQ.refl h, Or.inl ⟨by omega, rfl⟩⟩
    · refine j_iload_n 9 rfl rfl dX4_hears_8 ?_
      refine jS1i 12 rfl dX4_hears_9 lk_X4_137 rfl rfl (s_isStep (by omega)) (fun r9 H1 ⟨eh_, hr9⟩ => ?_)
      obtain rfl := eh_.symm
      refine j_if_ne 18 15 (by decide) rfl dX4_hears_12 (by intro hR; first | omega | exact hR _ _ | exact jb_r _ | exact hR0 _ _ | assumption) (fun h12 => ?_) (fun h12 => ?_)
      · exfalso; omega
      · refine j_bipush 17 rfl rfl dX4_hears_15 ?_
        refine j_ireti dX4_hears_17 rfl ?_
        exact ⟨CQ.refl h, Or.inl ⟨by omega, rfl⟩⟩
  refine jOk.rng (fun hR0 => ?_)
  refine jOk.ofe rfl (Nat.le_of_ble_eq_true rfl) (en_aii_5 (E := E)) ?_
  refine j_aload_n 1 rfl rfl dX4_hears_0 ?_
  refine j_iload_n 2 rfl rfl dX4_hears_1 ?_
  refine jV1i 5 rfl dX4_hears_2 lk_X4_89 rfl rfl (by decide) ( rfl) ( rfl) (s_isBox (by omega)) (fun r2 H1 ⟨eh_, hr2⟩ => ?_)
  obtain rfl := eh_.symm
  refine j_if_eq 15 8 (by decide) rfl dX4_hears_5 (by intro hR; first | omega | exact hR _ _ | exact jb_r _ | exact hR0 _ _ | assumption) (fun h5 => ?_) (fun h5 => ?_)
  · exfalso; omega
  refine j_iload_n 9 rfl rfl dX4_hears_8 ?_
  refine jS1i 12 rfl dX4_hears_9 lk_X4_137 rfl rfl (s_isStep (by omega)) (fun r9 H1 ⟨eh_, hr9⟩ => ?_)
  obtain rfl := eh_.symm
  refine j_if_ne 18 15 (by decide) rfl dX4_hears_12 (by intro hR; first | omega | exact hR _ _ | exact jb_r _ | exact hR0 _ _ | assumption) (fun h12 => ?_) (fun h12 => ?_)
  rotate_left
  · exfalso; omega
  refine j_aload_n 19 rfl rfl dX4_hears_18 ?_
  refine jV0v 22 rfl dX4_hears_19 lk_X4_143 rfl rfl (by decide) ( rfl) ( rfl) (s_runAsTold h) (fun H2 ⟨hq, h10⟩ => ?_)
  refine j_iconst 23 rfl dX4_hears_22 ?_
  refine j_iload_n 24 rfl rfl dX4_hears_23 ?_
  refine k_ishl 25 rfl dX4_hears_24 ?_
  refine j_istore_n 26 rfl st_5_3 (by decide) rfl dX4_hears_25 ?_
  refine j_iload_n 27 rfl rfl dX4_hears_26 ?_
  refine j_istore 29 rfl st_5_4 (by decide) rfl dX4_hears_27 ?_
  have loop := jUp t 60 (fun i => jWP E mX4_hears (jQi fun r H' => CQ H H' ∧ ((¬ (0 ≤ b ∧ b < H 1 3 ∧ 0 ≤ t ∧ t < 60) ∧ r = -2) ∨ ((0 ≤ b ∧ b < H 1 3 ∧ 0 ≤ t ∧ t < 60) ∧ r = hv (pU (cfg H)) (bShl 1 b) t 60))) 29 [some (jRF E 0), some (.int (jI b)), some (.int (jI t)), some (.int (jI (hv (pU (cfg H)) (bShl 1 b) t i))), some (.int (jI i))] [] H2) ?_ ?_ t (by omega) (by omega)
  · rw [hv_0] at loop
    exact loop
  · refine j_iload 31 rfl rfl dX4_hears_29 ?_
    refine j_bipush 33 rfl rfl dX4_hears_31 ?_
    refine j_icmp_ge 57 36 (by decide) rfl dX4_hears_33 (by intro hR; first | omega | exact hR _ _ | exact jb_r _ | exact hR0 _ _ | assumption) (by intro hR; first | omega | exact hR _ _ | exact jb_r _ | exact hR0 _ _ | assumption) (fun h2 => ?_) (fun h2 => ?_)
    · refine j_iload_n 58 rfl rfl dX4_hears_57 ?_
      refine j_ireti dX4_hears_58 rfl ?_
      exact ⟨hq, Or.inr ⟨by omega, rfl⟩⟩
    · exfalso; omega
  · intro i h0 h1 ih
    rw [hv_s _ _ h0] at ih
    unfold spr1 at ih
    refine j_iload 31 rfl rfl dX4_hears_29 ?_
    refine j_bipush 33 rfl rfl dX4_hears_31 ?_
    refine j_icmp_ge 57 36 (by decide) rfl dX4_hears_33 (by intro hR; first | omega | exact hR _ _ | exact jb_r _ | exact hR0 _ _ | assumption) (by intro hR; first | omega | exact hR _ _ | exact jb_r _ | exact hR0 _ _ | assumption) (fun h2 => ?_) (fun h2 => ?_)
    · exfalso; omega
    · refine j_iload_n 37 rfl rfl dX4_hears_36 ?_
      refine j_aload_n 38 rfl rfl dX4_hears_37 ?_
      refine j_getr 41 rfl 9 fl_X4_52 dX4_hears_38 (by decide) ( rfl) ( rfl) ?_
      refine j_getr 44 rfl 8 fl_X4_149 dX4_hears_41 (by decide) ( rfl) ( rfl) ?_
      refine j_iload 46 rfl rfl dX4_hears_44 ?_
      refine j_iald 47 rfl dX4_hears_46 (by decide) rfl (by decide) rfl (by omega) ?_
      rw [(cq_arr hq h10 (by omega) (by omega)).2]
      refine jS2i 50 rfl dX4_hears_47 lk_X4_157 rfl rfl (s_spread) (fun r H3 ⟨e, hr⟩ => ?_)
      subst e
      rcases hr with ⟨hr1, hr2⟩ | ⟨hr1, hr2⟩
      · rw [if_pos hr1, ← hr2] at ih
        refine j_istore_n 51 rfl st_5_3 (by decide) rfl dX4_hears_50 ?_
        refine j_iinc 54 rfl rfl st_5_4 (by decide) rfl dX4_hears_51 ?_
        refine j_goto 29 (by decide) dX4_hears_54 ?_
        exact ih
      · rw [if_neg (by simp [hr1]), ← hr2] at ih
        refine j_istore_n 51 rfl st_5_3 (by decide) rfl dX4_hears_50 ?_
        refine j_iinc 54 rfl rfl st_5_4 (by decide) rfl dX4_hears_51 ?_
        refine j_goto 29 (by decide) dX4_hears_54 ?_
        exact ih
-- X4_news
theorem s_news {a t b : Int} (ha : -2147483648 ≤ a ∧ a ≤ 2147483647) (ht : -2147483648 ≤ t ∧ t ≤ 2147483647) (hb : -2147483648 ≤ b ∧ b ≤ 2147483647) (h : CI H) : jOk E mX4_news [jRF E 0, .int (jI a), .int (jI t), .int (jI b)] H (jQi fun r H' => CQ H H' ∧ ((¬ (0 ≤ a ∧ a < H 1 3 ∧ 0 ≤ b ∧ b < H 1 3 ∧ a ≠ b ∧ 0 ≤ t ∧ t < 60) ∧ r = -2) ∨ ((0 ≤ a ∧ a < H 1 3 ∧ 0 ≤ b ∧ b < H 1 3 ∧ a ≠ b ∧ 0 ≤ t ∧ t < 60) ∧ isFst (fun s => bt (hv (pU (cfg H)) (bShl 1 a) t (s + 1)) b = true) t 60 r))) := by
  have hn := parsed_n h.1.1 h.1.2.1
  by_cases hok : (0 ≤ a ∧ a < H 1 3 ∧ 0 ≤ b ∧ b < H 1 3 ∧ a ≠ b ∧ 0 ≤ t ∧ t < 60)
  rotate_left
  · refine jOk.rng (fun hR0 => ?_)
    refine jOk.ofe rfl (Nat.le_of_ble_eq_true rfl) (en_aiii_6 (E := E)) ?_
    refine j_aload_n 1 rfl rfl dX4_news_0 ?_
    refine j_iload_n 2 rfl rfl dX4_news_1 ?_
    refine jV1i 5 rfl dX4_news_2 lk_X4_89 rfl rfl (by decide) ( rfl) ( rfl) (s_isBox (by omega)) (fun r2 H1 ⟨eh_, hr2⟩ => ?_)
    obtain rfl := eh_.symm
    refine j_if_eq 28 8 (by decide) rfl dX4_news_5 (by intro hR; first | omega | exact hR _ _ | exact jb_r _ | exact hR0 _ _ | assumption) (fun h5 => ?_) (fun h5 => ?_)
    · refine j_bipush 30 rfl rfl dX4_news_28 ?_
      refine j_ireti dX4_news_30 rfl ?_
      exact ⟨CQ.refl h, Or.inl ⟨by omega, rfl⟩⟩
    · refine j_iload_n 9 rfl rfl dX4_news_8 ?_
      refine jS1i 12 rfl dX4_news_9 lk_X4_137 rfl rfl (s_isStep (by omega)) (fun r9 H1 ⟨eh_, hr9⟩ => ?_)
      obtain rfl := eh_.symm
      refine j_if_eq 28 15 (by decide) rfl dX4_news_12 (by intro hR; first | omega | exact hR _ _ | exact jb_r _ | exact hR0 _ _ | assumption) (fun h12 => ?_) (fun h12 => ?_)
      · refine j_bipush 30 rfl rfl dX4_news_28 ?_
        refine j_ireti dX4_news_30 rfl ?_
        exact ⟨CQ.refl h, Or.inl ⟨by omega, rfl⟩⟩
      · refine j_aload_n 16 rfl rfl dX4_news_15 ?_
        refine j_iload_n 17 rfl rfl dX4_news_16 ?_
        refine jV1i 20 rfl dX4_news_17 lk_X4_89 rfl rfl (by decide) ( rfl) ( rfl) (s_isBox (by omega)) (fun r17 H1 ⟨eh_, hr17⟩ => ?_)
        obtain rfl := eh_.symm
        refine j_if_eq 28 23 (by decide) rfl dX4_news_20 (by intro hR; first | omega | exact hR _ _ | exact jb_r _ | exact hR0 _ _ | assumption) (fun h20 => ?_) (fun h20 => ?_)
        · refine j_bipush 30 rfl rfl dX4_news_28 ?_
          refine j_ireti dX4_news_30 rfl ?_
          exact ⟨CQ.refl h, Or.inl ⟨by omega, rfl⟩⟩
        · refine j_iload_n 24 rfl rfl dX4_news_23 ?_
          refine j_iload_n 25 rfl rfl dX4_news_24 ?_
          refine j_icmp_ne 31 28 (by decide) rfl dX4_news_25 (by intro hR; first | omega | exact hR _ _ | exact jb_r _ | exact hR0 _ _ | assumption) (by intro hR; first | omega | exact hR _ _ | exact jb_r _ | exact hR0 _ _ | assumption) (fun h25 => ?_) (fun h25 => ?_)
          · exfalso; omega
          · refine j_bipush 30 rfl rfl dX4_news_28 ?_
            refine j_ireti dX4_news_30 rfl ?_
            exact ⟨CQ.refl h, Or.inl ⟨by omega, rfl⟩⟩
  refine jOk.rng (fun hR0 => ?_)
  refine jOk.ofe rfl (Nat.le_of_ble_eq_true rfl) (en_aiii_6 (E := E)) ?_
  refine j_aload_n 1 rfl rfl dX4_news_0 ?_
  refine j_iload_n 2 rfl rfl dX4_news_1 ?_
  refine jV1i 5 rfl dX4_news_2 lk_X4_89 rfl rfl (by decide) ( rfl) ( rfl) (s_isBox (by omega)) (fun r2 H1 ⟨eh_, hr2⟩ => ?_)
  obtain rfl := eh_.symm
  refine j_if_eq 28 8 (by decide) rfl dX4_news_5 (by intro hR; first | omega | exact hR _ _ | exact jb_r _ | exact hR0 _ _ | assumption) (fun h5 => ?_) (fun h5 => ?_)
  · exfalso; omega
  refine j_iload_n 9 rfl rfl dX4_news_8 ?_
  refine jS1i 12 rfl dX4_news_9 lk_X4_137 rfl rfl (s_isStep (by omega)) (fun r9 H1 ⟨eh_, hr9⟩ => ?_)
  obtain rfl := eh_.symm
  refine j_if_eq 28 15 (by decide) rfl dX4_news_12 (by intro hR; first | omega | exact hR _ _ | exact jb_r _ | exact hR0 _ _ | assumption) (fun h12 => ?_) (fun h12 => ?_)
  · exfalso; omega
  refine j_aload_n 16 rfl rfl dX4_news_15 ?_
  refine j_iload_n 17 rfl rfl dX4_news_16 ?_
  refine jV1i 20 rfl dX4_news_17 lk_X4_89 rfl rfl (by decide) ( rfl) ( rfl) (s_isBox (by omega)) (fun r17 H1 ⟨eh_, hr17⟩ => ?_)
  obtain rfl := eh_.symm
  refine j_if_eq 28 23 (by decide) rfl dX4_news_20 (by intro hR; first | omega | exact hR _ _ | exact jb_r _ | exact hR0 _ _ | assumption) (fun h20 => ?_) (fun h20 => ?_)
  · exfalso; omega
  refine j_iload_n 24 rfl rfl dX4_news_23 ?_
  refine j_iload_n 25 rfl rfl dX4_news_24 ?_
  refine j_icmp_ne 31 28 (by decide) rfl dX4_news_25 (by intro hR; first | omega | exact hR _ _ | exact jb_r _ | exact hR0 _ _ | assumption) (by intro hR; first | omega | exact hR _ _ | exact jb_r _ | exact hR0 _ _ | assumption) (fun h25 => ?_) (fun h25 => ?_)
  rotate_left
  · exfalso; omega
  refine j_aload_n 32 rfl rfl dX4_news_31 ?_
  refine jV0v 35 rfl dX4_news_32 lk_X4_143 rfl rfl (by decide) ( rfl) ( rfl) (s_runAsTold h) (fun H2 ⟨hq, h10⟩ => ?_)
  refine j_iconst 36 rfl dX4_news_35 ?_
  refine j_iload_n 37 rfl rfl dX4_news_36 ?_
  refine k_ishl 38 rfl dX4_news_37 ?_
  refine j_istore 40 rfl st_6_4 (by decide) rfl dX4_news_38 ?_
  refine j_iload_n 41 rfl rfl dX4_news_40 ?_
  refine j_istore 43 rfl st_6_5 (by decide) rfl dX4_news_41 ?_
  have loop := jUp t 60 (fun i => (∀ q, t ≤ q → q < i → ¬ bt (hv (pU (cfg H)) (bShl 1 a) t (q + 1)) b = true) → jWP E mX4_news (jQi fun r H' => CQ H H' ∧ ((¬ (0 ≤ a ∧ a < H 1 3 ∧ 0 ≤ b ∧ b < H 1 3 ∧ a ≠ b ∧ 0 ≤ t ∧ t < 60) ∧ r = -2) ∨ ((0 ≤ a ∧ a < H 1 3 ∧ 0 ≤ b ∧ b < H 1 3 ∧ a ≠ b ∧ 0 ≤ t ∧ t < 60) ∧ isFst (fun s => bt (hv (pU (cfg H)) (bShl 1 a) t (s + 1)) b = true) t 60 r))) 43 [some (jRF E 0), some (.int (jI a)), some (.int (jI t)), some (.int (jI b)), some (.int (jI (hv (pU (cfg H)) (bShl 1 a) t i))), some (.int (jI i))] [] H2) ?_ ?_ t (by omega) (by omega)
  · have := loop (fun q a b => by omega)
    rw [hv_0] at this
    exact this
  · intro hz
    refine j_iload 45 rfl rfl dX4_news_43 ?_
    refine j_bipush 47 rfl rfl dX4_news_45 ?_
    refine j_icmp_ge 85 50 (by decide) rfl dX4_news_47 (by intro hR; first | omega | exact hR _ _ | exact jb_r _ | exact hR0 _ _ | assumption) (by intro hR; first | omega | exact hR _ _ | exact jb_r _ | exact hR0 _ _ | assumption) (fun h2 => ?_) (fun h2 => ?_)
    · refine j_iconst 86 rfl dX4_news_85 ?_
      refine j_ireti dX4_news_86 rfl ?_
      exact ⟨hq, Or.inr ⟨by omega, Or.inr ⟨hz, rfl⟩⟩⟩
    · exfalso; omega
  · intro i h0 h1 ih hz
    refine j_iload 45 rfl rfl dX4_news_43 ?_
    refine j_bipush 47 rfl rfl dX4_news_45 ?_
    refine j_icmp_ge 85 50 (by decide) rfl dX4_news_47 (by intro hR; first | omega | exact hR _ _ | exact jb_r _ | exact hR0 _ _ | assumption) (by intro hR; first | omega | exact hR _ _ | exact jb_r _ | exact hR0 _ _ | assumption) (fun h2 => ?_) (fun h2 => ?_)
    · exfalso; omega
    · refine j_iload 52 rfl rfl dX4_news_50 ?_
      refine j_aload_n 53 rfl rfl dX4_news_52 ?_
      refine j_getr 56 rfl 9 fl_X4_52 dX4_news_53 (by decide) ( rfl) ( rfl) ?_
      refine j_getr 59 rfl 8 fl_X4_149 dX4_news_56 (by decide) ( rfl) ( rfl) ?_
      refine j_iload 61 rfl rfl dX4_news_59 ?_
      refine j_iald 62 rfl dX4_news_61 (by decide) rfl (by decide) rfl (by omega) ?_
      rw [(cq_arr hq h10 (by omega) (by omega)).2]
      refine jS2i 65 rfl dX4_news_62 lk_X4_157 rfl rfl (s_spread) (fun r H3 ⟨e, hr⟩ => ?_)
      subst e
      have hr3 : r = hv (pU (cfg H)) (bShl 1 a) t (i + 1) := by
        rw [hv_s _ _ h0]
        unfold spr1
        rcases hr with ⟨hr1, hr2⟩ | ⟨hr1, hr2⟩
        · rw [if_pos hr1, hr2]
        · rw [if_neg (by simp [hr1]), hr2]
      rw [hr3]
      refine j_istore 67 rfl st_6_4 (by decide) rfl dX4_news_65 ?_
      refine j_iload 69 rfl rfl dX4_news_67 ?_
      refine j_iload_n 70 rfl rfl dX4_news_69 ?_
      refine k_ishr 71 rfl dX4_news_70 ?_
      refine j_iconst 72 rfl dX4_news_71 ?_
      refine k_iand 73 rfl dX4_news_72 ?_
      rw [bt_shr1 (by omega)]
      cases hx : bt (hv (pU (cfg H)) (bShl 1 a) t (i + 1)) b with
      | true =>
        rw [if_pos rfl]
        refine j_if_eq 79 76 (by decide) rfl dX4_news_73 (by intro hR; first | omega | exact hR _ _ | exact jb_r _ | exact hR0 _ _ | assumption) (fun h3 => ?_) (fun h3 => ?_)
        · exfalso; omega
        · refine j_iload 78 rfl rfl dX4_news_76 ?_
          refine j_ireti dX4_news_78 rfl ?_
          exact ⟨hq, Or.inr ⟨by omega, Or.inl ⟨h0, h1, hx, hz⟩⟩⟩
      | false =>
        rw [if_neg (by simp)]
        refine j_if_eq 79 76 (by decide) rfl dX4_news_73 (by intro hR; first | omega | exact hR _ _ | exact jb_r _ | exact hR0 _ _ | assumption) (fun h3 => ?_) (fun h3 => ?_)
        · refine j_iinc 82 rfl rfl st_6_5 (by decide) rfl dX4_news_79 ?_
          refine j_goto 43 (by decide) dX4_news_82 ?_
          refine ih (fun q a c => ?_)
          by_cases hs : q = i
          · subst hs; rw [hx]; simp
          · exact hz q a (by omega)
        · exfalso; omega
end S21
