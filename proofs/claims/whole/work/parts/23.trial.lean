/-! ===== what is tried: configurations changed ===== -/
def kLid (K : jH) (L : Int) : jH := fun k i => if k = 0 ∧ i = 5 then L else K k i
def kLaw (K : jH) (b l m : Int) : jH := fun k i => if k = 1 ∧ i = b then l else if k = 2 ∧ i = b then m else K k i
def kPlc (K : jH) (g : Int → Int) : jH := fun k i => if k = 4 then g i else K k i
def kTrn (K : jH) (g : Int → Int) : jH := fun k i => if k = 6 then g i else K k i
def kLok (K : jH) (g : Int → Int) : jH := fun k i => if k = 7 then g i else K k i
def hold (c : Nat) (H K : jH) : Prop := H c 0 = K 0 0 ∧ H c 5 = K 0 5 ∧ (∀ b, 0 ≤ b → b < 9 → H (c + 1) b = K 1 b ∧ H (c + 2) b = K 2 b ∧ H (c + 3) b = K 3 b ∧ H (c + 4) b = K 4 b) ∧ (∀ t, 0 ≤ t → t < 60 → H (c + 6) t = K 6 t ∧ H (c + 7) t = K 7 t ∧ H (c + 8) t = K 8 t)
theorem hold_ok {c : Nat} {H K : jH} (h : hold c H K) (ok : cOk K) : cOk (cK H c) ∧ kEq (cK H c) K := by
  obtain ⟨h1, h2, h3, h4⟩ := h
  have hn := ok.1
  have hb : ∀ b, 0 ≤ b → b < cK H c 0 0 → cK H c 1 b = K 1 b ∧ cK H c 2 b = K 2 b ∧ cK H c 3 b = K 3 b ∧ cK H c 4 b = K 4 b := fun b b0 b1 => h3 b b0 (by rw [cK_n, h1] at b1; omega)
  refine ⟨cOk_of ok h1 (by rw [cK_l, h2]; exact ok.2.1) hb h4, h1, fun b b0 b1 => ?_, fun t t0 t1 b b0 b1 => ?_⟩
  · obtain ⟨a1, a2, a3, a4⟩ := hb b b0 b1
    exact ⟨by rw [cK_l, h2], a1, fun _ => a2, a3, a4⟩
  · obtain ⟨a1, a2, a3⟩ := h4 t t0 t1
    rw [cK_6, cK_7, cK_8, a1, a2, a3]
    exact ⟨fun _ => rfl, fun _ => rfl, rfl⟩
theorem hold_fr {c : Nat} {H H' K : jH} (h : hold c H K) (f : cFr c H H') : hold c H' K := by
  obtain ⟨h1, h2, h3, h4⟩ := h
  refine ⟨by rw [f.2 0 (by decide) (by decide) (by decide)]; exact h1, by rw [f.2 5 (by decide) (by decide) (by decide)]; exact h2, fun b b0 b1 => ?_, fun t t0 t1 => ?_⟩
  · rw [f.1 (c + 1) (by omega) (by omega), f.1 (c + 2) (by omega) (by omega), f.1 (c + 3) (by omega) (by omega), f.1 (c + 4) (by omega) (by omega)]
    exact h3 b b0 b1
  · rw [f.1 (c + 6) (by omega) (by omega), f.1 (c + 7) (by omega) (by omega), f.1 (c + 8) (by omega) (by omega)]
    exact h4 t t0 t1
theorem hold_lid {H K : jH} (h : hold 37 H K) (L : Int) : hold 37 (jU H 37 5 L) (kLid K L) := by
  obtain ⟨h1, h2, h3, h4⟩ := h
  refine ⟨by rw [jU_i (by decide)]; exact h1, jU_s, fun b b0 b1 => ?_, fun t t0 t1 => ?_⟩
  · rw [jU_k (by decide), jU_k (by decide), jU_k (by decide), jU_k (by decide)]
    exact h3 b b0 b1
  · rw [jU_k (by decide), jU_k (by decide), jU_k (by decide)]
    exact h4 t t0 t1
theorem kLid_lid (K : jH) (L L2 : Int) : kLid (kLid K L) L2 = kLid K L2 := by
  funext k i
  unfold kLid
  by_cases h : k = 0 ∧ i = 5
  · rw [if_pos h, if_pos h]
  · rw [if_neg h, if_neg h, if_neg h]
theorem cOk_lid {K : jH} (ok : cOk K) {L : Int} (hL : 0 ≤ L ∧ L < 512) : cOk (kLid K L) := ⟨ok.1, hL, ok.2.2.1, ok.2.2.2.1, ok.2.2.2.2⟩
theorem kLaw_1 (K : jH) (b l m i : Int) : kLaw K b l m 1 i = if i = b then l else K 1 i := by
  unfold kLaw
  by_cases h : i = b
  · rw [if_pos ⟨rfl, h⟩, if_pos h]
  · rw [if_neg (fun q => h q.2), if_neg (fun q => h q.2), if_neg h]
theorem kLaw_2 (K : jH) (b l m i : Int) : kLaw K b l m 2 i = if i = b then m else K 2 i := by
  unfold kLaw
  by_cases h : i = b
  · rw [if_neg (fun q => by omega), if_pos ⟨rfl, h⟩, if_pos h]
  · rw [if_neg (fun q => h q.2), if_neg (fun q => h q.2), if_neg h]
theorem kLaw_o {K : jH} {k : Nat} (h1 : k ≠ 1) (h2 : k ≠ 2) (b l m : Int) : kLaw K b l m k = K k := by
  funext i
  unfold kLaw
  rw [if_neg (fun q => h1 q.1), if_neg (fun q => h2 q.1)]
theorem kLaw_law (K : jH) (b l m l2 m2 : Int) : kLaw (kLaw K b l m) b l2 m2 = kLaw K b l2 m2 := by
  funext k i
  unfold kLaw
  by_cases h : k = 1 ∧ i = b
  · simp only [if_pos h]
  · simp only [if_neg h]
    by_cases h2 : k = 2 ∧ i = b
    · simp only [if_pos h2]
    · simp only [if_neg h2]
theorem kLaw_self (K : jH) (b : Int) : kLaw K b (K 1 b) (K 2 b) = K := by
  funext k i
  unfold kLaw
  by_cases h : k = 1 ∧ i = b
  · rw [if_pos h, h.1, h.2]
  · rw [if_neg h]
    by_cases h2 : k = 2 ∧ i = b
    · rw [if_pos h2, h2.1, h2.2]
    · rw [if_neg h2]
theorem hold_law {H K : jH} (h : hold 37 H K) {b : Int} (l m : Int) : hold 37 (jU (jU H 38 b l) 39 b m) (kLaw K b l m) := by
  obtain ⟨h1, h2, h3, h4⟩ := h
  refine ⟨?_, ?_, fun i i0 i1 => ?_, fun t t0 t1 => ?_⟩
  · rw [jU_k (by decide), jU_k (by decide), kLaw_o (by decide) (by decide)]; exact h1
  · rw [jU_k (by decide), jU_k (by decide), kLaw_o (by decide) (by decide)]; exact h2
  · obtain ⟨a1, a2, a3, a4⟩ := h3 i i0 i1
    rw [kLaw_1, kLaw_2, kLaw_o (by decide) (by decide), kLaw_o (k := 4) (by decide) (by decide), jU_k (a := 37 + 1) (by decide), jU_k (a := 37 + 3) (by decide), jU_k (a := 37 + 3) (by decide), jU_k (a := 37 + 4) (by decide), jU_k (a := 37 + 4) (by decide)]
    refine ⟨?_, ?_, a3, a4⟩
    · by_cases e : i = b
      · subst e; rw [if_pos rfl]; exact jU_s
      · rw [if_neg e]; exact (jU_i e).trans a1
    · by_cases e : i = b
      · subst e; rw [if_pos rfl]; exact jU_s
      · rw [if_neg e]; exact (jU_i e).trans ((jU_k (by decide)).trans a2)
  · rw [jU_k (by decide), jU_k (by decide), jU_k (by decide), jU_k (by decide), jU_k (by decide), jU_k (by decide), kLaw_o (by decide) (by decide), kLaw_o (by decide) (by decide), kLaw_o (by decide) (by decide)]
    exact h4 t t0 t1
theorem cOk_law {K : jH} (ok : cOk K) {b l m : Int} (hl : 0 ≤ l ∧ l ≤ 4) (hm : 0 ≤ m ∧ m ≤ 9) (h3 : l = 3 → 1 ≤ m) : cOk (kLaw K b l m) := by
  obtain ⟨o1, o2, o3, o4, o5⟩ := ok
  have e0 : kLaw K b l m 0 = K 0 := kLaw_o (by decide) (by decide) b l m
  have e3 : kLaw K b l m 3 = K 3 := kLaw_o (by decide) (by decide) b l m
  have e4 : kLaw K b l m 4 = K 4 := kLaw_o (by decide) (by decide) b l m
  have e6 : kLaw K b l m 6 = K 6 := kLaw_o (by decide) (by decide) b l m
  have e7 : kLaw K b l m 7 = K 7 := kLaw_o (by decide) (by decide) b l m
  have e8 : kLaw K b l m 8 = K 8 := kLaw_o (by decide) (by decide) b l m
  unfold cOk
  rw [e0, e3, e4, e6, e7, e8]
  refine ⟨o1, o2, fun i i0 i1 => ?_, o4, o5⟩
  obtain ⟨a1, a2, a3, a4, a5⟩ := o3 i i0 i1
  rw [kLaw_1, kLaw_2]
  by_cases e : i = b
  · rw [if_pos e, if_pos e]; exact ⟨hl, hm, h3, a4, a5⟩
  · rw [if_neg e, if_neg e]; exact ⟨a1, a2, a3, a4, a5⟩
def tFr (H H' : jH) : Prop := ∀ k, (k < 37 ∨ 51 < k) → H' k = H k
theorem tFr.trans {H H1 H2 : jH} (h : tFr H H1) (g : tFr H1 H2) : tFr H H2 := fun k a => (g k a).trans (h k a)
section S23
variable {E : jE} {H K : jH}
theorem r_run {l : Int} (hl : -1 ≤ l ∧ l < 60) (hh : hold 37 H K) (ok : cOk K) : jOk E mX1_run [jRF E 37, .int (jI l)] H (jQv fun H' => tFr H H' ∧ hold 37 H' K ∧ ∀ t, 0 ≤ t → t ≤ l → H' 46 t = pO K t ∧ H' 47 t = pU K t) := by
  obtain ⟨k1, k2⟩ := hold_ok hh ok
  refine (s_run_37 hl k1).monv (fun H' ⟨f, q⟩ => ⟨fun k a => f.1 k (by omega) (by omega), hold_fr hh f, fun t t0 t1 => ?_⟩)
  obtain ⟨q1, q2⟩ := q t t0 t1
  rw [q1, q2]
  exact ⟨pO_cong k2 k1.1 (by omega), pU_cong k2 k1.1 (by omega)⟩
theorem r_load (hb : baseOk H) : jOk E mX1_load [jRF E 37, jRF E 1, jRF E 6, .int (jI (H 0 2)), jRF E 7] H (jQv fun H' => tFr H H' ∧ hold 37 H' (cfg H)) := by
  refine (s_load_37 hb.2.2.2.1 hb.2.2.1.1 hb.2.2.2.2.1).monv (fun H' ld => ?_)
  obtain ⟨k1, k2, k3, k4, k5⟩ := ld_K hb ld hb.2.2.2.1
  exact ⟨fun k a => ld.1 k (by omega), k2, k3, fun b b0 b1 => k4 b b0 b1, k5⟩
-- X4_isHushed
theorem s_isHushed {m t : Int} (hm : 0 ≤ m ∧ m < 512) (ht : 0 ≤ t ∧ t < 60) (hlid : 0 ≤ H 0 2 ∧ H 0 2 < 512) {L : Int} (hh : hold 37 H (kLid K L)) (ok : cOk K) : jOk E mX4_isHushed [jRF E 0, .int (jI m), .int (jI t)] H (jQi fun r H' => tFr H H' ∧ hold 37 H' (kLid K (bOr (H 0 2) m)) ∧ ((r = 1 ∧ pU (kLid K (bOr (H 0 2) m)) t = 0) ∨ (r = 0 ∧ pU (kLid K (bOr (H 0 2) m)) t ≠ 0))) := by
  have hr : 0 ≤ bOr (H 0 2) m ∧ bOr (H 0 2) m < 512 := by
    apply bt_512 (jb_r _)
    intro b b0 b1
    rw [bt_or, bt_of512 hlid b0, bt_of512 hm b0]
    rfl
  have h2 := hold_lid hh (bOr (H 0 2) m)
  rw [kLid_lid] at h2
  refine jOk.rng (fun hR0 => ?_)
  refine jOk.ofe rfl (Nat.le_of_ble_eq_true rfl) (en_aii_3 (E := E)) ?_
  refine j_aload_n 1 rfl rfl dX4_isHushed_0 ?_
  refine j_getr 4 rfl 11 fl_X4_60 dX4_isHushed_1 (by decide) ( rfl) ( rfl) ?_
  refine j_aload_n 5 rfl rfl dX4_isHushed_4 ?_
  refine g_geti 8 rfl 2 2 rfl fl_X4_20 dX4_isHushed_5 (by decide) ( rfl) ( rfl) ?_
  refine j_iload_n 9 rfl rfl dX4_isHushed_8 ?_
  refine k_ior 10 rfl dX4_isHushed_9 ?_
  refine g_puti 13 rfl 5 5 rfl fl_X4_323 ft_1_5 dX4_isHushed_10 (by decide) ( rfl) ( rfl) (by intro hR; first | omega | exact hR _ _ | exact jb_r _ | exact hR0 _ _ | assumption) ?_
  refine j_aload_n 14 rfl rfl dX4_isHushed_13 ?_
  refine j_getr 17 rfl 11 fl_X4_60 dX4_isHushed_14 (by decide) ( rfl) ( rfl) ?_
  refine j_iload_n 18 rfl rfl dX4_isHushed_17 ?_
  refine jV1v 21 rfl dX4_isHushed_18 lk_X4_187 rfl rfl (by decide) ( rfl) ( rfl) (r_run (by omega) h2 (cOk_lid ok hr)) (fun H1 ⟨f1, f2, f3⟩ => ?_)
  have hU := pU_r (K := kLid K (bOr (H 0 2) m)) ok.1 t
  refine j_aload_n 22 rfl rfl dX4_isHushed_21 ?_
  refine j_getr 25 rfl 11 fl_X4_60 dX4_isHushed_22 (by decide) ( rfl) ( rfl) ?_
  refine j_getr 28 rfl 8 fl_X4_149 dX4_isHushed_25 (by decide) ( rfl) ( rfl) ?_
  refine j_iload_n 29 rfl rfl dX4_isHushed_28 ?_
  refine j_iald 30 rfl dX4_isHushed_29 (by decide) rfl (by decide) rfl (by omega) ?_
  rw [(f3 t ht.1 (by omega)).2]
  refine j_if_ne 37 33 (by decide) rfl dX4_isHushed_30 (by intro hR; first | omega | exact hR _ _ | exact jb_r _ | exact hR0 _ _ | assumption) (fun h30 => ?_) (fun h30 => ?_)
  · refine j_iconst 38 rfl dX4_isHushed_37 ?_
    refine j_zreti dX4_isHushed_38 rfl (by first | decide | omega) ?_
    exact ⟨fun k a => (f1 k a).trans (jU_o (by omega)), f2, by omega⟩
  · refine j_iconst 34 rfl dX4_isHushed_33 ?_
    refine j_goto 38 (by decide) dX4_isHushed_34 ?_
    refine j_zreti dX4_isHushed_38 rfl (by first | decide | omega) ?_
    exact ⟨fun k a => (f1 k a).trans (jU_o (by omega)), f2, by omega⟩
end S23
/-! hush -/
def candP (n lid m : Int) : Prop := (0 ≤ m ∧ m < 512) ∧ ∀ b, 0 ≤ b → b < 9 → bt m b = true → b < n ∧ bt lid b = false
def hushP (K : jH) (lid t m : Int) : Prop := pU (kLid K (bOr lid m)) t = 0
def isHush (K : jH) (lid t w r : Int) : Prop := (∃ m, candP (K 0 0) lid m ∧ hushP K lid t m ∧ (∀ q, candP (K 0 0) lid q → hushP K lid t q → oc m < oc q ∨ (oc m = oc q ∧ m ≤ q)) ∧ r = if w = 0 then oc m else m) ∨ ((∀ q, candP (K 0 0) lid q → ¬ hushP K lid t q) ∧ r = -1)
theorem allBits_bt {n b : Int} (hn : 0 ≤ n ∧ n ≤ 9) (hb : 0 ≤ b ∧ b < 32) : bt (bShl 1 n - 1) b = decide (b < n) := by
  have key : ∀ n : Fin 10, ∀ b : Fin 32, bt (bShl 1 ((n : Nat) : Int) - 1) ((b : Nat) : Int) = decide (((b : Nat) : Int) < ((n : Nat) : Int)) := by decide +kernel
  have h := key ⟨n.toNat, by omega⟩ ⟨b.toNat, by omega⟩
  simp only [Int.toNat_of_nonneg hn.1, Int.toNat_of_nonneg hb.1] at h
  exact h
theorem cand_ok {n lid m : Int} (hn : 0 ≤ n ∧ n ≤ 9) (hm : 0 ≤ m ∧ m < 512) : bAnd m (bXor (bAnd (bShl 1 n - 1) (bXor lid (-1))) (-1)) = 0 ↔ candP n lid m := by
  have hb : ∀ b, 0 ≤ b → b < 32 → bt (bXor (bAnd (bShl 1 n - 1) (bXor lid (-1))) (-1)) b = !(decide (b < n) && !bt lid b) := fun b b0 b1 => by
    rw [bt_not ⟨b0, b1⟩, bt_and, allBits_bt hn ⟨b0, b1⟩, bt_not ⟨b0, b1⟩]
  constructor
  · intro h
    refine ⟨hm, fun b b0 b1 hbm => ?_⟩
    have h1 : bt (bAnd m (bXor (bAnd (bShl 1 n - 1) (bXor lid (-1))) (-1))) b = false := by rw [h]; exact bt_0 b
    rw [bt_and, hb b b0 (by omega), hbm] at h1
    simp at h1
    exact h1
  · rintro ⟨_, h⟩
    apply bt_ext (jb_r _) (by omega)
    intro b b0 b1
    rw [bt_0, bt_and, hb b b0 b1]
    cases hbm : bt m b with
    | false => rfl
    | true =>
      have : b < 9 := by
        apply Classical.byContradiction
        intro q
        rw [bt_of512 hm (by omega)] at hbm
        cases hbm
      obtain ⟨c1, c2⟩ := h b b0 this hbm
      simp [c1, c2]
section S23b
variable {E : jE} {H : jH}
-- X4_hush
set_option maxHeartbeats 1000000 in
theorem s_hush {t w : Int} (ht : -2147483648 ≤ t ∧ t ≤ 2147483647) (hw : -2147483648 ≤ w ∧ w ≤ 2147483647) (h : CI H) : jOk E mX4_hush [jRF E 0, .int (jI t), .int (jI w)] H (jQi fun r H' => CQ H H' ∧ ((¬ (0 ≤ t ∧ t < 60 ∧ (w = 0 ∨ w = 1)) ∧ r = -2) ∨ ((0 ≤ t ∧ t < 60 ∧ (w = 0 ∨ w = 1)) ∧ isHush (cfg H) (H 0 2) t w r))) := by
  have hn := parsed_n h.1.1 h.1.2.1
  have ok := cfg_ok h.1
  have hlid := h.1.2.2.2.1
  by_cases hok : (0 ≤ t ∧ t < 60 ∧ (w = 0 ∨ w = 1))
  rotate_left
  · refine jOk.rng (fun hR0 => ?_)
    refine jOk.ofe rfl (Nat.le_of_ble_eq_true rfl) (en_aii_6 (E := E)) ?_
    refine j_iload_n 1 rfl rfl dX4_hush_0 ?_
    refine jS1i 4 rfl dX4_hush_1 lk_X4_137 rfl rfl (s_isStep (by omega)) (fun r1 H1 ⟨eh_, hr1⟩ => ?_)
    obtain rfl := eh_.symm
    refine j_if_eq 14 7 (by decide) rfl dX4_hush_4 (by intro hR; first | omega | exact hR _ _ | exact jb_r _ | exact hR0 _ _ | assumption) (fun h4 => ?_) (fun h4 => ?_)
    · refine j_bipush 16 rfl rfl dX4_hush_14 ?_
      refine j_ireti dX4_hush_16 rfl ?_
      exact ⟨CQ.refl h, Or.inl ⟨by omega, rfl⟩⟩
    · refine j_iload_n 8 rfl rfl dX4_hush_7 ?_
      refine jS1i 11 rfl dX4_hush_8 lk_X4_140 rfl rfl (s_isEither (by omega)) (fun r8 H1 ⟨eh_, hr8⟩ => ?_)
      obtain rfl := eh_.symm
      refine j_if_ne 17 14 (by decide) rfl dX4_hush_11 (by intro hR; first | omega | exact hR _ _ | exact jb_r _ | exact hR0 _ _ | assumption) (fun h11 => ?_) (fun h11 => ?_)
      · exfalso; omega
      · refine j_bipush 16 rfl rfl dX4_hush_14 ?_
        refine j_ireti dX4_hush_16 rfl ?_
        exact ⟨CQ.refl h, Or.inl ⟨by omega, rfl⟩⟩
  have key : ∀ (Hf : jH) (r : Int), tFr H Hf → isHush (cfg H) (H 0 2) t w r → CQ H Hf ∧ ((¬ (0 ≤ t ∧ t < 60 ∧ (w = 0 ∨ w = 1)) ∧ r = -2) ∨ ((0 ≤ t ∧ t < 60 ∧ (w = 0 ∨ w = 1)) ∧ isHush (cfg H) (H 0 2) t w r)) := fun Hf r f q => ⟨CQ.of h (fun k a b => f k (by omega)) (fun j => by rw [f 0 (by decide)]), Or.inr ⟨hok, q⟩⟩
  refine jOk.rng (fun hR0 => ?_)
  refine jOk.ofe rfl (Nat.le_of_ble_eq_true rfl) (en_aii_6 (E := E)) ?_
  refine j_iload_n 1 rfl rfl dX4_hush_0 ?_
  refine jS1i 4 rfl dX4_hush_1 lk_X4_137 rfl rfl (s_isStep (by omega)) (fun r1 H1 ⟨eh_, hr1⟩ => ?_)
  obtain rfl := eh_.symm
  refine j_if_eq 14 7 (by decide) rfl dX4_hush_4 (by intro hR; first | omega | exact hR _ _ | exact jb_r _ | exact hR0 _ _ | assumption) (fun h4 => ?_) (fun h4 => ?_)
  · exfalso; omega
  refine j_iload_n 8 rfl rfl dX4_hush_7 ?_
  refine jS1i 11 rfl dX4_hush_8 lk_X4_140 rfl rfl (s_isEither (by omega)) (fun r8 H1 ⟨eh_, hr8⟩ => ?_)
  obtain rfl := eh_.symm
  refine j_if_ne 17 14 (by decide) rfl dX4_hush_11 (by intro hR; first | omega | exact hR _ _ | exact jb_r _ | exact hR0 _ _ | assumption) (fun h11 => ?_) (fun h11 => ?_)
  rotate_left
  · exfalso; omega
  refine j_aload_n 18 rfl rfl dX4_hush_17 ?_
  refine j_getr 21 rfl 11 fl_X4_60 dX4_hush_18 (by decide) ( rfl) ( rfl) ?_
  refine j_aload_n 22 rfl rfl dX4_hush_21 ?_
  refine j_getr 25 rfl 0 fl_X4_12 dX4_hush_22 (by decide) ( rfl) ( rfl) ?_
  refine j_aload_n 26 rfl rfl dX4_hush_25 ?_
  refine j_getr 29 rfl 1 fl_X4_16 dX4_hush_26 (by decide) ( rfl) ( rfl) ?_
  refine j_aload_n 30 rfl rfl dX4_hush_29 ?_
  refine g_geti 33 rfl 2 2 rfl fl_X4_20 dX4_hush_30 (by decide) ( rfl) ( rfl) ?_
  refine j_aload_n 34 rfl rfl dX4_hush_33 ?_
  refine j_getr 37 rfl 3 fl_X4_27 dX4_hush_34 (by decide) ( rfl) ( rfl) ?_
  refine jV4v 40 rfl dX4_hush_37 lk_X4_161 rfl rfl (by decide) ( rfl) ( rfl) (r_load h.1) (fun H1 ⟨f0, hh0⟩ => ?_)
  have e13 : H1 1 3 = H 1 3 := by rw [f0 1 (by decide)]
  have e02 : H1 0 2 = H 0 2 := by rw [f0 0 (by decide)]
  refine j_aload_n 41 rfl rfl dX4_hush_40 ?_
  refine j_getr 44 rfl 0 fl_X4_12 dX4_hush_41 (by decide) ( rfl) ( rfl) ?_
  refine jV0i 47 rfl dX4_hush_44 lk_X4_165 rfl rfl (by decide) ( rfl) ( rfl) (s_allBits (by rw [e13]; exact hn)) (fun r1 H2 ⟨eh_, hr1⟩ => ?_)
  obtain rfl := eh_.symm
  subst hr1
  rw [e13]
  refine j_aload_n 48 rfl rfl dX4_hush_47 ?_
  refine g_geti 51 rfl 2 2 rfl fl_X4_20 dX4_hush_48 (by decide) ( rfl) ( rfl) ?_
  rw [e02]
  refine j_iconst 52 rfl dX4_hush_51 ?_
  refine k_ixor 53 rfl dX4_hush_52 ?_
  refine k_iand 54 rfl dX4_hush_53 ?_
  refine j_istore_n 55 rfl st_6_3 (by decide) rfl dX4_hush_54 ?_
  refine j_iconst 56 rfl dX4_hush_55 ?_
  refine j_istore 58 rfl st_6_4 (by decide) rfl dX4_hush_56 ?_
  obtain ⟨fr, hfr⟩ : ∃ fr, fr = bAnd (bShl 1 (H 1 3) - 1) (bXor (H 0 2) (-1)) := ⟨_, rfl⟩
  rw [← hfr]
  have loop := jUp 0 10 (fun i => ∀ Hi x5, (tFr H Hi ∧ (∃ L, hold 37 Hi (kLid (cfg H) L)) ∧ (∀ q, candP (H 1 3) (H 0 2) q → oc q < i → ¬ hushP (cfg H) (H 0 2) t q)) → jWP E mX4_hush (jQi fun r H' => CQ H H' ∧ ((¬ (0 ≤ t ∧ t < 60 ∧ (w = 0 ∨ w = 1)) ∧ r = -2) ∨ ((0 ≤ t ∧ t < 60 ∧ (w = 0 ∨ w = 1)) ∧ isHush (cfg H) (H 0 2) t w r))) 58 [some (jRF E 0), some (.int (jI t)), some (.int (jI w)), some (.int (jI fr)), some (.int (jI i)), x5] [] Hi) ?_ ?_ 0 (by omega) (by omega)
  · refine loop H1 none ⟨f0, ⟨H 0 2, ?_⟩, fun q c1 c2 => ?_⟩
    · have : kLid (cfg H) (H 0 2) = cfg H := by
        funext k i
        unfold kLid
        by_cases q : k = 0 ∧ i = 5
        · rw [if_pos q, q.1, q.2]; rfl
        · rw [if_neg q]
      rw [this]
      exact hh0
    · have := oc_r q; omega
  · rintro Hi x5 ⟨g1, g2, g3⟩
    refine j_iload 60 rfl rfl dX4_hush_58 ?_
    refine j_bipush 62 rfl rfl dX4_hush_60 ?_
    refine j_icmp_gt 129 65 (by decide) rfl dX4_hush_62 (by intro hR; first | omega | exact hR _ _ | exact jb_r _ | exact hR0 _ _ | assumption) (by intro hR; first | omega | exact hR _ _ | exact jb_r _ | exact hR0 _ _ | assumption) (fun h2 => ?_) (fun h2 => ?_)
    · refine j_iconst 130 rfl dX4_hush_129 ?_
      refine j_ireti dX4_hush_130 rfl ?_
      exact key Hi _ g1 (Or.inr ⟨fun q c => g3 q c (by have := oc_r q; omega), rfl⟩)
    · exfalso; omega
  · rintro i h0 h1 ih Hi x5 ⟨g1, g2, g3⟩
    refine j_iload 60 rfl rfl dX4_hush_58 ?_
    refine j_bipush 62 rfl rfl dX4_hush_60 ?_
    refine j_icmp_gt 129 65 (by decide) rfl dX4_hush_62 (by intro hR; first | omega | exact hR _ _ | exact jb_r _ | exact hR0 _ _ | assumption) (by intro hR; first | omega | exact hR _ _ | exact jb_r _ | exact hR0 _ _ | assumption) (fun h2 => ?_) (fun h2 => ?_)
    · exfalso; omega
    · refine j_iconst 66 rfl dX4_hush_65 ?_
      refine j_istore 68 rfl st_6_5 (by decide) rfl dX4_hush_66 ?_
      have loop2 := jUp 0 512 (fun j => ∀ Hi, (tFr H Hi ∧ (∃ L, hold 37 Hi (kLid (cfg H) L)) ∧ (∀ q, candP (H 1 3) (H 0 2) q → oc q = i → q < j → ¬ hushP (cfg H) (H 0 2) t q)) → jWP E mX4_hush (jQi fun r H' => CQ H H' ∧ ((¬ (0 ≤ t ∧ t < 60 ∧ (w = 0 ∨ w = 1)) ∧ r = -2) ∨ ((0 ≤ t ∧ t < 60 ∧ (w = 0 ∨ w = 1)) ∧ isHush (cfg H) (H 0 2) t w r))) 68 [some (jRF E 0), some (.int (jI t)), some (.int (jI w)), some (.int (jI fr)), some (.int (jI i)), some (.int (jI j))] [] Hi) ?_ ?_ 0 (by omega) (by omega)
      · exact loop2 Hi ⟨g1, g2, fun q c1 c2 c3 => by have := c1.1.1; omega⟩
      · rintro Hj ⟨p1, p2, p3⟩
        refine j_iload 70 rfl rfl dX4_hush_68 ?_
        refine j_sipush 73 rfl rfl dX4_hush_70 ?_
        refine j_icmp_gt 123 76 (by decide) rfl dX4_hush_73 (by intro hR; first | omega | exact hR _ _ | exact jb_r _ | exact hR0 _ _ | assumption) (by intro hR; first | omega | exact hR _ _ | exact jb_r _ | exact hR0 _ _ | assumption) (fun h3 => ?_) (fun h3 => ?_)
        · refine j_iinc 126 rfl rfl st_6_4 (by decide) rfl dX4_hush_123 ?_
          refine j_goto 58 (by decide) dX4_hush_126 ?_
          refine ih Hj _ ⟨p1, p2, fun q c1 c2 => ?_⟩
          by_cases hq : oc q < i
          · exact g3 q c1 hq
          · exact p3 q c1 (by omega) c1.1.2
        · exfalso; omega
      · rintro j j0 j1 ih2 Hj ⟨p1, p2, p3⟩
        have nxt : ∀ H3, tFr H H3 → (∃ L, hold 37 H3 (kLid (cfg H) L)) → (candP (H 1 3) (H 0 2) j → oc j = i → ¬ hushP (cfg H) (H 0 2) t j) → jWP E mX4_hush (jQi fun r H' => CQ H H' ∧ ((¬ (0 ≤ t ∧ t < 60 ∧ (w = 0 ∨ w = 1)) ∧ r = -2) ∨ ((0 ≤ t ∧ t < 60 ∧ (w = 0 ∨ w = 1)) ∧ isHush (cfg H) (H 0 2) t w r))) 117 [some (jRF E 0), some (.int (jI t)), some (.int (jI w)), some (.int (jI fr)), some (.int (jI i)), some (.int (jI j))] [] H3 := by
          intro H3 q1 q2 q3
          refine j_iinc 120 rfl rfl st_6_5 (by decide) rfl dX4_hush_117 ?_
          refine j_goto 68 (by decide) dX4_hush_120 ?_
          refine ih2 H3 ⟨q1, q2, fun q c1 c2 c3 => ?_⟩
          by_cases hq : q = j
          · subst hq; exact q3 c1 c2
          · exact p3 q c1 c2 (by omega)
        have hcand := cand_ok (n := H 1 3) (lid := H 0 2) (m := j) hn (by omega)
        rw [← hfr] at hcand
        refine j_iload 70 rfl rfl dX4_hush_68 ?_
        refine j_sipush 73 rfl rfl dX4_hush_70 ?_
        refine j_icmp_gt 123 76 (by decide) rfl dX4_hush_73 (by intro hR; first | omega | exact hR _ _ | exact jb_r _ | exact hR0 _ _ | assumption) (by intro hR; first | omega | exact hR _ _ | exact jb_r _ | exact hR0 _ _ | assumption) (fun h3 => ?_) (fun h3 => ?_)
        · exfalso; omega
        · refine j_iload 78 rfl rfl dX4_hush_76 ?_
          refine j_iload_n 79 rfl rfl dX4_hush_78 ?_
          refine j_iconst 80 rfl dX4_hush_79 ?_
          refine k_ixor 81 rfl dX4_hush_80 ?_
          refine k_iand 82 rfl dX4_hush_81 ?_
          refine j_if_ne 117 85 (by decide) rfl dX4_hush_82 (by intro hR; first | omega | exact hR _ _ | exact jb_r _ | exact hR0 _ _ | assumption) (fun h4 => ?_) (fun h4 => ?_)
          · exact nxt Hj p1 p2 (fun c _ => absurd (hcand.mpr c) h4)
          · refine j_iload 87 rfl rfl dX4_hush_85 ?_
            refine jS1i 90 rfl dX4_hush_87 lk_X4_152 rfl rfl (s_bitCount (by omega)) (fun r2 H3 ⟨eh_, hr2⟩ => ?_)
            obtain rfl := eh_.symm
            subst hr2
            have hoc := oc_r j
            refine j_iload 92 rfl rfl dX4_hush_90 ?_
            refine j_icmp_ne 117 95 (by decide) rfl dX4_hush_92 (by intro hR; first | omega | exact hR _ _ | exact jb_r _ | exact hR0 _ _ | assumption) (by intro hR; first | omega | exact hR _ _ | exact jb_r _ | exact hR0 _ _ | assumption) (fun h5 => ?_) (fun h5 => ?_)
            · exact nxt Hj p1 p2 (fun _ c => absurd c h5)
            · obtain ⟨L, hL⟩ := p2
              have e2 : Hj 0 2 = H 0 2 := by rw [p1 0 (by decide)]
              refine j_aload_n 96 rfl rfl dX4_hush_95 ?_
              refine j_iload 98 rfl rfl dX4_hush_96 ?_
              refine j_iload_n 99 rfl rfl dX4_hush_98 ?_
              refine jV2i 102 rfl dX4_hush_99 lk_X4_169 rfl rfl (by decide) ( rfl) ( rfl) (s_isHushed (by omega) (by omega) (by rw [e2]; exact hlid) hL ok) (fun r3 H3 ⟨q1, q2, q3⟩ => ?_)
              rw [e2] at q2 q3
              refine j_if_eq 117 105 (by decide) rfl dX4_hush_102 (by intro hR; first | omega | exact hR _ _ | exact jb_r _ | exact hR0 _ _ | assumption) (fun h6 => ?_) (fun h6 => ?_)
              · refine nxt H3 (p1.trans q1) ⟨_, q2⟩ (fun _ _ hh => ?_)
                rcases q3 with ⟨a, _⟩ | ⟨_, a⟩
                · omega
                · exact a hh
              · have hhu : hushP (cfg H) (H 0 2) t j := by
                  rcases q3 with ⟨_, a⟩ | ⟨a, _⟩
                  · exact a
                  · omega
                have hmin : ∀ q, candP (H 1 3) (H 0 2) q → hushP (cfg H) (H 0 2) t q → oc j < oc q ∨ (oc j = oc q ∧ j ≤ q) := fun q c1 c2 => by
                  by_cases hq : oc q < i
                  · exact absurd c2 (g3 q c1 hq)
                  · by_cases hq2 : oc q = i
                    · by_cases hq3 : q < j
                      · exact absurd c2 (p3 q c1 hq2 hq3)
                      · right; omega
                    · left; omega
                refine j_iload_n 106 rfl rfl dX4_hush_105 ?_
                refine j_if_ne 114 109 (by decide) rfl dX4_hush_106 (by intro hR; first | omega | exact hR _ _ | exact jb_r _ | exact hR0 _ _ | assumption) (fun h7 => ?_) (fun h7 => ?_)
                · refine j_iload 116 rfl rfl dX4_hush_114 ?_
                  refine j_ireti dX4_hush_116 rfl ?_
                  exact key H3 _ (p1.trans q1) (Or.inl ⟨j, hcand.mp h4, hhu, hmin, by rw [if_neg h7]⟩)
                · refine j_iload 111 rfl rfl dX4_hush_109 ?_
                  refine j_goto 116 (by decide) dX4_hush_111 ?_
                  refine j_ireti dX4_hush_116 rfl ?_
                  exact key H3 _ (p1.trans q1) (Or.inl ⟨j, hcand.mp h4, hhu, hmin, by rw [if_pos h7, h5]⟩)
end S23b
