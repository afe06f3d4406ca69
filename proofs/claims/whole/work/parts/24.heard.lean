/-! ===== the class: what was heard ===== -/
/-- it comes out as heard: n times, in step fs so many fm -/
def asB (fs fm : Int → Int) (n : Int) (K : jH) : Bool := !anyI (fun k => !decide (oc (pO K (fs k)) = fm k)) n
theorem asB_iff {fs fm : Int → Int} {n : Int} {K : jH} : asB fs fm n K = true ↔ ∀ k, 0 ≤ k → k < n → oc (pO K (fs k)) = fm k := by
  unfold asB
  rw [Bool.not_eq_true', ← Bool.not_eq_true, anyI_iff]
  constructor
  · intro h k k0 k1
    apply Classical.byContradiction
    intro q
    exact h ⟨k, k0, k1, by simp [q]⟩
  · rintro h ⟨k, k0, k1, q⟩
    simp [h k k0 k1] at q
theorem asB_cong {fs fm gs gm : Int → Int} {n : Int} {K K' : jH} (hf : ∀ k, 0 ≤ k → k < n → fs k = gs k ∧ fm k = gm k) (hr : ∀ k, 0 ≤ k → k < n → fs k < 60) (hk : kEq K K') (hn : 0 ≤ K 0 0 ∧ K 0 0 ≤ 9) : asB fs fm n K = asB gs gm n K' := by
  unfold asB
  congr 1
  refine anyI_cong (fun k k0 k1 => ?_)
  obtain ⟨e1, e2⟩ := hf k k0 k1
  rw [pO_cong hk hn (hr k k0 k1), e1, e2]
/-- a box of the law of a code -/
def kCode (K : jH) (b c : Int) : jH := kLaw K b (c / 10) (c % 10)
/-- the codes that fit -/
def gdB (H : jH) (b c : Int) : Bool := (decide (c % 10 ≠ 0) || decide (c = 40)) && asB (H 11) (H 12) (H 0 6) (kCode (cfg H) b c)
def cntI (f : Int → Bool) (n : Int) : Int := sumI (fun k => if f k then 1 else 0) n
theorem cntI_0 (f : Int → Bool) : cntI f 0 = 0 := rfl
theorem cntI_s (f : Int → Bool) {n : Int} (h : 0 ≤ n) : cntI f (n + 1) = cntI f n + if f n then 1 else 0 := sumI_s _ h
theorem cntN_r (f : Int → Bool) : ∀ n : Nat, 0 ≤ sumN (fun k => if f k then 1 else 0) n ∧ sumN (fun k => if f k then 1 else 0) n ≤ n
  | 0 => by simp [sumN]
  | n + 1 => by
    have := cntN_r f n
    rw [sumN]
    split <;> omega
theorem cntI_r (f : Int → Bool) {n : Int} (h : 0 ≤ n) : 0 ≤ cntI f n ∧ cntI f n ≤ n := by
  have := cntN_r f n.toNat
  unfold cntI sumI
  omega
theorem cntN_mono (f : Int → Bool) : ∀ (d m : Nat), sumN (fun k => if f k then 1 else 0) m ≤ sumN (fun k => if f k then 1 else 0) (m + d)
  | 0, m => Int.le_refl _
  | d + 1, m => by
    have := cntN_mono f d m
    rw [show m + (d + 1) = (m + d) + 1 by omega, sumN]
    split <;> omega
theorem cntI_mono (f : Int → Bool) {m n : Int} (h0 : 0 ≤ m) (h : m ≤ n) : cntI f m ≤ cntI f n := by
  have := cntN_mono f (n.toNat - m.toNat) m.toNat
  rw [show m.toNat + (n.toNat - m.toNat) = n.toNat by omega] at this
  exact this
theorem cntI_cong {f g : Int → Bool} {n : Int} (h : ∀ k, 0 ≤ k → k < n → f k = g k) : cntI f n = cntI g n := sumI_cong (fun k k0 k1 => by rw [h k k0 k1])
theorem gd_0 (H : jH) (b c : Int) (h : c % 10 = 0) (h2 : c ≠ 40) : gdB H b c = false := by unfold gdB; simp [h, h2]
/-- of the codes up to 36 one can be missed at most: 0, 10, 20, 30 never fit -/
theorem cnt_36 (H : jH) (b : Int) {c : Int} (h0 : 0 ≤ c) (h : c ≤ 40) : cntI (gdB H b) c ≤ 36 := by
  have k : ∀ c, 0 ≤ c → c ≤ 40 → cntI (gdB H b) c ≤ c - (if 0 < c then 1 else 0) - (if 10 < c then 1 else 0) - (if 20 < c then 1 else 0) - (if 30 < c then 1 else 0) := by
    intro c c0 c1
    obtain ⟨m, rfl⟩ := Int.eq_ofNat_of_zero_le c0
    induction m with
    | zero => rw [show ((0 : Nat) : Int) = 0 from rfl, cntI_0]; simp
    | succ m ih =>
      have := ih (by omega) (by omega)
      rw [show ((m + 1 : Nat) : Int) = (m : Int) + 1 by omega, cntI_s _ (by omega)]
      by_cases h1 : (m : Int) = 0 ∨ (m : Int) = 10 ∨ (m : Int) = 20 ∨ (m : Int) = 30
      · rw [gd_0 H b m (by omega) (by omega)]
        rcases h1 with h1 | h1 | h1 | h1 <;> rw [h1] at this ⊢ <;> simp at this ⊢ <;> omega
      · have e1 : (if 0 < (m : Int) + 1 then (1 : Int) else 0) = if 0 < (m : Int) then 1 else 0 := by
          rw [if_pos (by omega), if_pos (by omega)]
        have e2 : (if 10 < (m : Int) + 1 then (1 : Int) else 0) = if 10 < (m : Int) then 1 else 0 := by
          by_cases q : 10 < (m : Int)
          · rw [if_pos q, if_pos (by omega)]
          · rw [if_neg q, if_neg (by omega)]
        have e3 : (if 20 < (m : Int) + 1 then (1 : Int) else 0) = if 20 < (m : Int) then 1 else 0 := by
          by_cases q : 20 < (m : Int)
          · rw [if_pos q, if_pos (by omega)]
          · rw [if_neg q, if_neg (by omega)]
        have e4 : (if 30 < (m : Int) + 1 then (1 : Int) else 0) = if 30 < (m : Int) then 1 else 0 := by
          by_cases q : 30 < (m : Int)
          · rw [if_pos q, if_pos (by omega)]
          · rw [if_neg q, if_neg (by omega)]
        rw [e1, e2, e3, e4]
        split <;> omega
  have := k c h0 h
  by_cases hc : 30 < c
  · rw [if_pos (by omega), if_pos (by omega), if_pos (by omega), if_pos hc] at this
    omega
  · have := cntI_r (gdB H b) h0
    omega
section S24
variable {E : jE} {H K : jH}
-- X4_lastHeardStep
theorem s_lastHeardStep (ho : hearOk H) : jOk E mX4_lastHeardStep [jRF E 0] H (jQi fun r H' => H' = H ∧ (-1 ≤ r ∧ r < 60) ∧ ∀ k, 0 ≤ k → k < H 0 6 → H 11 k ≤ r) := by
  obtain ⟨hn, hk⟩ := ho
  refine jOk.rng (fun hR0 => ?_)
  refine jOk.ofe rfl (Nat.le_of_ble_eq_true rfl) (en_a_3 (E := E)) ?_
  refine j_iconst 1 rfl dX4_lastHeardStep_0 ?_
  refine j_istore_n 2 rfl st_3_1 (by decide) rfl dX4_lastHeardStep_1 ?_
  refine j_iconst 3 rfl dX4_lastHeardStep_2 ?_
  refine j_istore_n 4 rfl st_3_2 (by decide) rfl dX4_lastHeardStep_3 ?_
  have loop := jUp 0 (H 0 6) (fun i => ∀ m, (-1 ≤ m ∧ m < 60) → (∀ k, 0 ≤ k → k < i → H 11 k ≤ m) → jWP E mX4_lastHeardStep (jQi fun r H' => H' = H ∧ (-1 ≤ r ∧ r < 60) ∧ ∀ k, 0 ≤ k → k < H 0 6 → H 11 k ≤ r) 4 [some (jRF E 0), some (.int (jI m)), some (.int (jI i))] [] H) ?_ ?_ 0 (by omega) (by omega)
  · exact loop (-1) (by omega) (fun k a b => by omega)
  · intro m hm hz
    refine j_iload_n 5 rfl rfl dX4_lastHeardStep_4 ?_
    refine j_aload_n 6 rfl rfl dX4_lastHeardStep_5 ?_
    refine g_geti 9 rfl 6 6 rfl fl_X4_37 dX4_lastHeardStep_6 (by decide) ( rfl) ( rfl) ?_
    refine j_icmp_ge 29 12 (by decide) rfl dX4_lastHeardStep_9 (by intro hR; first | omega | exact hR _ _ | exact jb_r _ | exact hR0 _ _ | assumption) (by intro hR; first | omega | exact hR _ _ | exact jb_r _ | exact hR0 _ _ | assumption) (fun h => ?_) (fun h => ?_)
    · refine j_iload_n 30 rfl rfl dX4_lastHeardStep_29 ?_
      refine j_ireti dX4_lastHeardStep_30 rfl ?_
      exact ⟨rfl, hm, hz⟩
    · exfalso; omega
  · intro i h0 h1 ih m hm hz
    have hi := (hk i h0 h1).1
    refine j_iload_n 5 rfl rfl dX4_lastHeardStep_4 ?_
    refine j_aload_n 6 rfl rfl dX4_lastHeardStep_5 ?_
    refine g_geti 9 rfl 6 6 rfl fl_X4_37 dX4_lastHeardStep_6 (by decide) ( rfl) ( rfl) ?_
    refine j_icmp_ge 29 12 (by decide) rfl dX4_lastHeardStep_9 (by intro hR; first | omega | exact hR _ _ | exact jb_r _ | exact hR0 _ _ | assumption) (by intro hR; first | omega | exact hR _ _ | exact jb_r _ | exact hR0 _ _ | assumption) (fun h => ?_) (fun h => ?_)
    · exfalso; omega
    · refine j_iload_n 13 rfl rfl dX4_lastHeardStep_12 ?_
      refine j_aload_n 14 rfl rfl dX4_lastHeardStep_13 ?_
      refine j_getr 17 rfl 4 fl_X4_31 dX4_lastHeardStep_14 (by decide) ( rfl) ( rfl) ?_
      refine j_iload_n 18 rfl rfl dX4_lastHeardStep_17 ?_
      refine j_iald 19 rfl dX4_lastHeardStep_18 (by decide) rfl (by decide) rfl (by omega) ?_
      refine j_max 22 rfl mx_X4 dX4_lastHeardStep_19 (by intro _; omega) (by intro _; omega) (by decide) (Nat.le_of_ble_eq_true rfl) (fun v hv => ?_)
      refine j_istore_n 23 rfl st_3_1 (by decide) rfl dX4_lastHeardStep_22 ?_
      refine j_iinc 26 rfl rfl st_3_2 (by decide) rfl dX4_lastHeardStep_23 ?_
      refine j_goto 4 (by decide) dX4_lastHeardStep_26 ?_
      refine ih v (by omega) (fun k k0 k1 => ?_)
      by_cases hki : k = i
      · subst hki; omega
      · have := hz k k0 (by omega); omega
-- X4_isAsHeard
theorem s_isAsHeard (ho : hearOk H) {l : Int} (hl : ∀ k, 0 ≤ k → k < H 0 6 → H 11 k ≤ l) (hn : 0 ≤ K 0 0 ∧ K 0 0 ≤ 9) (ha : ∀ t, 0 ≤ t → t ≤ l → H 46 t = pO K t) : jOk E mX4_isAsHeard [jRF E 0] H (jQi fun r H' => H' = H ∧ ((r = 1 ∧ asB (H 11) (H 12) (H 0 6) K = true) ∨ (r = 0 ∧ asB (H 11) (H 12) (H 0 6) K = false))) := by
  obtain ⟨hc, hk⟩ := ho
  refine jOk.rng (fun hR0 => ?_)
  refine jOk.ofe rfl (Nat.le_of_ble_eq_true rfl) (en_a_2 (E := E)) ?_
  refine j_iconst 1 rfl dX4_isAsHeard_0 ?_
  refine j_istore_n 2 rfl st_2_1 (by decide) rfl dX4_isAsHeard_1 ?_
  have loop := jUp 0 (H 0 6) (fun i => (∀ k, 0 ≤ k → k < i → oc (pO K (H 11 k)) = H 12 k) → jWP E mX4_isAsHeard (jQi fun r H' => H' = H ∧ ((r = 1 ∧ asB (H 11) (H 12) (H 0 6) K = true) ∨ (r = 0 ∧ asB (H 11) (H 12) (H 0 6) K = false))) 2 [some (jRF E 0), some (.int (jI i))] [] H) ?_ ?_ 0 (by omega) (by omega)
  · exact loop (fun k a b => by omega)
  · intro hz
    refine j_iload_n 3 rfl rfl dX4_isAsHeard_2 ?_
    refine j_aload_n 4 rfl rfl dX4_isAsHeard_3 ?_
    refine g_geti 7 rfl 6 6 rfl fl_X4_37 dX4_isAsHeard_4 (by decide) ( rfl) ( rfl) ?_
    refine j_icmp_ge 44 10 (by decide) rfl dX4_isAsHeard_7 (by intro hR; first | omega | exact hR _ _ | exact jb_r _ | exact hR0 _ _ | assumption) (by intro hR; first | omega | exact hR _ _ | exact jb_r _ | exact hR0 _ _ | assumption) (fun h => ?_) (fun h => ?_)
    · refine j_iconst 45 rfl dX4_isAsHeard_44 ?_
      refine j_zreti dX4_isAsHeard_45 rfl (by first | decide | omega) ?_
      exact ⟨rfl, Or.inl ⟨rfl, asB_iff.mpr hz⟩⟩
    · exfalso; omega
  · intro i h0 h1 ih hz
    obtain ⟨k1, k2⟩ := hk i h0 h1
    refine j_iload_n 3 rfl rfl dX4_isAsHeard_2 ?_
    refine j_aload_n 4 rfl rfl dX4_isAsHeard_3 ?_
    refine g_geti 7 rfl 6 6 rfl fl_X4_37 dX4_isAsHeard_4 (by decide) ( rfl) ( rfl) ?_
    refine j_icmp_ge 44 10 (by decide) rfl dX4_isAsHeard_7 (by intro hR; first | omega | exact hR _ _ | exact jb_r _ | exact hR0 _ _ | assumption) (by intro hR; first | omega | exact hR _ _ | exact jb_r _ | exact hR0 _ _ | assumption) (fun h => ?_) (fun h => ?_)
    · exfalso; omega
    · refine j_aload_n 11 rfl rfl dX4_isAsHeard_10 ?_
      refine j_getr 14 rfl 11 fl_X4_60 dX4_isAsHeard_11 (by decide) ( rfl) ( rfl) ?_
      refine j_getr 17 rfl 7 fl_X4_146 dX4_isAsHeard_14 (by decide) ( rfl) ( rfl) ?_
      refine j_aload_n 18 rfl rfl dX4_isAsHeard_17 ?_
      refine j_getr 21 rfl 4 fl_X4_31 dX4_isAsHeard_18 (by decide) ( rfl) ( rfl) ?_
      refine j_iload_n 22 rfl rfl dX4_isAsHeard_21 ?_
      refine j_iald 23 rfl dX4_isAsHeard_22 (by decide) rfl (by decide) rfl (by omega) ?_
      refine j_iald 24 rfl dX4_isAsHeard_23 (by decide) rfl (by decide) rfl (by omega) ?_
      rw [ha _ k1.1 (hl i h0 h1)]
      refine jS1i 27 rfl dX4_isAsHeard_24 lk_X4_152 rfl rfl (s_bitCount (pO_r hn _)) (fun r H1 ⟨eh_, hr⟩ => ?_)
      obtain rfl := eh_.symm
      subst hr
      have hoc := oc_r (pO K (H 11 i))
      refine j_aload_n 28 rfl rfl dX4_isAsHeard_27 ?_
      refine j_getr 31 rfl 5 fl_X4_34 dX4_isAsHeard_28 (by decide) ( rfl) ( rfl) ?_
      refine j_iload_n 32 rfl rfl dX4_isAsHeard_31 ?_
      refine j_iald 33 rfl dX4_isAsHeard_32 (by decide) rfl (by decide) rfl (by omega) ?_
      refine j_icmp_eq 38 36 (by decide) rfl dX4_isAsHeard_33 (by intro hR; first | omega | exact hR _ _ | exact jb_r _ | exact hR0 _ _ | assumption) (by intro hR; first | omega | exact hR _ _ | exact jb_r _ | exact hR0 _ _ | assumption) (fun h2 => ?_) (fun h2 => ?_)
      · refine j_iinc 41 rfl rfl st_2_1 (by decide) rfl dX4_isAsHeard_38 ?_
        refine j_goto 2 (by decide) dX4_isAsHeard_41 ?_
        refine ih (fun k a b => ?_)
        by_cases hki : k = i
        · subst hki; exact h2
        · exact hz k a (by omega)
      · refine j_iconst 37 rfl dX4_isAsHeard_36 ?_
        refine j_zreti dX4_isAsHeard_37 rfl (by first | decide | omega) ?_
        refine ⟨rfl, Or.inr ⟨rfl, ?_⟩⟩
        cases hA : asB (H 11) (H 12) (H 0 6) K with
        | false => rfl
        | true => exact absurd (asB_iff.mp hA i h0 h1) h2
-- X4_findFitting
set_option maxHeartbeats 1000000 in
theorem s_findFitting {b : Int} (hb : 0 ≤ b ∧ b < H 1 3) (h : CI H) : jOk E mX4_findFitting [jRF E 0, .int (jI b)] H (jQi fun r H' => (∀ k, (k < 37 ∨ 52 < k) → H' k = H k) ∧ (∃ l m, hold 37 H' (kLaw (cfg H) b l m)) ∧ r = cntI (gdB H b) 41 ∧ ∀ c, 0 ≤ c → c < 41 → gdB H b c = true → H' 52 (cntI (gdB H b) c) = c) := by
  have hn := parsed_n h.1.1 h.1.2.1
  have ok := cfg_ok h.1
  have hear := h.1.2.2.2.2.2.1
  refine jOk.rng (fun hR0 => ?_)
  refine jOk.ofe rfl (Nat.le_of_ble_eq_true rfl) (en_ai_5 (E := E)) ?_
  refine j_aload_n 1 rfl rfl dX4_findFitting_0 ?_
  refine j_getr 4 rfl 11 fl_X4_60 dX4_findFitting_1 (by decide) ( rfl) ( rfl) ?_
  refine j_aload_n 5 rfl rfl dX4_findFitting_4 ?_
  refine j_getr 8 rfl 0 fl_X4_12 dX4_findFitting_5 (by decide) ( rfl) ( rfl) ?_
  refine j_aload_n 9 rfl rfl dX4_findFitting_8 ?_
  refine j_getr 12 rfl 1 fl_X4_16 dX4_findFitting_9 (by decide) ( rfl) ( rfl) ?_
  refine j_aload_n 13 rfl rfl dX4_findFitting_12 ?_
  refine g_geti 16 rfl 2 2 rfl fl_X4_20 dX4_findFitting_13 (by decide) ( rfl) ( rfl) ?_
  refine j_aload_n 17 rfl rfl dX4_findFitting_16 ?_
  refine j_getr 20 rfl 3 fl_X4_27 dX4_findFitting_17 (by decide) ( rfl) ( rfl) ?_
  refine jV4v 23 rfl dX4_findFitting_20 lk_X4_161 rfl rfl (by decide) ( rfl) ( rfl) (r_load h.1) (fun H1 ⟨f0, hh0⟩ => ?_)
  have hear1 : hearOk H1 := by unfold hearOk at hear ⊢; rw [f0 0 (by decide), f0 11 (by decide), f0 12 (by decide)]; exact hear
  refine j_aload_n 24 rfl rfl dX4_findFitting_23 ?_
  refine jV0i 27 rfl dX4_findFitting_24 lk_X4_183 rfl rfl (by decide) ( rfl) ( rfl) (s_lastHeardStep hear1) (fun l H2 ⟨eh_, hl, hlm⟩ => ?_)
  obtain rfl := eh_.symm
  rw [f0 0 (by decide), f0 11 (by decide)] at hlm
  refine j_istore_n 28 rfl st_5_2 (by decide) rfl dX4_findFitting_27 ?_
  refine j_iconst 29 rfl dX4_findFitting_28 ?_
  refine j_istore_n 30 rfl st_5_3 (by decide) rfl dX4_findFitting_29 ?_
  refine j_iconst 31 rfl dX4_findFitting_30 ?_
  refine j_istore 33 rfl st_5_4 (by decide) rfl dX4_findFitting_31 ?_
  have loop := jUp 1 41 (fun c => ∀ Hi, ((∀ k, (k < 37 ∨ 52 < k) → Hi k = H k) ∧ (∃ l m, hold 37 Hi (kLaw (cfg H) b l m)) ∧ (∀ q, 0 ≤ q → q < c → gdB H b q = true → Hi 52 (cntI (gdB H b) q) = q)) → jWP E mX4_findFitting (jQi fun r H' => (∀ k, (k < 37 ∨ 52 < k) → H' k = H k) ∧ (∃ l m, hold 37 H' (kLaw (cfg H) b l m)) ∧ r = cntI (gdB H b) 41 ∧ ∀ c, 0 ≤ c → c < 41 → gdB H b c = true → H' 52 (cntI (gdB H b) c) = c) 33 [some (jRF E 0), some (.int (jI b)), some (.int (jI l)), some (.int (jI (cntI (gdB H b) c))), some (.int (jI c))] [] Hi) ?_ ?_ 1 (by omega) (by omega)
  · have e : cntI (gdB H b) 1 = 0 := by
      rw [show (1 : Int) = 0 + 1 from rfl, cntI_s _ (by omega), gd_0 H b 0 (by decide) (by decide)]
      rfl
    have := loop H1 ⟨fun k a => f0 k (by omega), ⟨cfg H 1 b, cfg H 2 b, by rw [kLaw_self]; exact hh0⟩, fun q q0 q1 qg => by rw [show q = 0 by omega, gd_0 H b 0 (by decide) (by decide)] at qg; cases qg⟩
    rw [e] at this
    exact this
  · rintro Hi ⟨g1, g2, g3⟩
    refine j_iload 35 rfl rfl dX4_findFitting_33 ?_
    refine j_bipush 37 rfl rfl dX4_findFitting_35 ?_
    refine j_icmp_gt 106 40 (by decide) rfl dX4_findFitting_37 (by intro hR; first | omega | exact hR _ _ | exact jb_r _ | exact hR0 _ _ | assumption) (by intro hR; first | omega | exact hR _ _ | exact jb_r _ | exact hR0 _ _ | assumption) (fun h2 => ?_) (fun h2 => ?_)
    · refine j_iload_n 107 rfl rfl dX4_findFitting_106 ?_
      refine j_ireti dX4_findFitting_107 rfl ?_
      exact ⟨g1, g2, rfl, g3⟩
    · exfalso; omega
  · rintro c c0 c1 ih Hi ⟨g1, g2, g3⟩
    have hcr := cntI_r (gdB H b) (n := c) (by omega)
    have hc36 := cnt_36 H b (c := c) (by omega) (by omega)
    rw [cntI_s _ (by omega)] at ih
    have skip : gdB H b c = false → ∀ H3, (∀ k, (k < 37 ∨ 52 < k) → H3 k = H k) → (∃ l m, hold 37 H3 (kLaw (cfg H) b l m)) → (H3 52 = Hi 52) → jWP E mX4_findFitting (jQi fun r H' => (∀ k, (k < 37 ∨ 52 < k) → H' k = H k) ∧ (∃ l m, hold 37 H' (kLaw (cfg H) b l m)) ∧ r = cntI (gdB H b) 41 ∧ ∀ c, 0 ≤ c → c < 41 → gdB H b c = true → H' 52 (cntI (gdB H b) c) = c) 100 [some (jRF E 0), some (.int (jI b)), some (.int (jI l)), some (.int (jI (cntI (gdB H b) c))), some (.int (jI c))] [] H3 := by
      intro hg H3 q1 q2 q3
      rw [hg] at ih
      simp only [Bool.false_eq_true, if_false, Int.add_zero] at ih
      refine j_iinc 103 rfl rfl st_5_4 (by decide) rfl dX4_findFitting_100 ?_
      refine j_goto 33 (by decide) dX4_findFitting_103 ?_
      refine ih H3 ⟨q1, q2, fun q a1 a2 a3 => ?_⟩
      rw [q3]
      by_cases hq : q = c
      · subst hq; rw [hg] at a3; cases a3
      · exact g3 q a1 (by omega) a3
    refine j_iload 35 rfl rfl dX4_findFitting_33 ?_
    refine j_bipush 37 rfl rfl dX4_findFitting_35 ?_
    refine j_icmp_gt 106 40 (by decide) rfl dX4_findFitting_37 (by intro hR; first | omega | exact hR _ _ | exact jb_r _ | exact hR0 _ _ | assumption) (by intro hR; first | omega | exact hR _ _ | exact jb_r _ | exact hR0 _ _ | assumption) (fun h2 => ?_) (fun h2 => ?_)
    · exfalso; omega
    · refine j_iload_n 41 rfl rfl dX4_findFitting_40 ?_
      refine j_bipush 43 rfl rfl dX4_findFitting_41 ?_
      refine j_icmp_ge 106 46 (by decide) rfl dX4_findFitting_43 (by intro hR; first | omega | exact hR _ _ | exact jb_r _ | exact hR0 _ _ | assumption) (by intro hR; first | omega | exact hR _ _ | exact jb_r _ | exact hR0 _ _ | assumption) (fun h3 => ?_) (fun h3 => ?_)
      · exfalso; omega
      · refine j_iload 48 rfl rfl dX4_findFitting_46 ?_
        refine j_bipush 50 rfl rfl dX4_findFitting_48 ?_
        refine k_irem 51 rfl (by omega) (by intro hR; first | omega | exact hR _ _ | exact jb_r _ | exact hR0 _ _ | assumption) dX4_findFitting_50 ?_
        rw [iRem_n (by omega) (by omega)]
        have main : (c % 10 ≠ 0 ∨ c = 40) → jWP E mX4_findFitting (jQi fun r H' => (∀ k, (k < 37 ∨ 52 < k) → H' k = H k) ∧ (∃ l m, hold 37 H' (kLaw (cfg H) b l m)) ∧ r = cntI (gdB H b) 41 ∧ ∀ c, 0 ≤ c → c < 41 → gdB H b c = true → H' 52 (cntI (gdB H b) c) = c) 64 [some (jRF E 0), some (.int (jI b)), some (.int (jI l)), some (.int (jI (cntI (gdB H b) c))), some (.int (jI c))] [] Hi := by
          intro hcc
          obtain ⟨l2, m2, hm⟩ := g2
          refine j_aload_n 65 rfl rfl dX4_findFitting_64 ?_
          refine j_getr 68 rfl 11 fl_X4_60 dX4_findFitting_65 (by decide) ( rfl) ( rfl) ?_
          refine j_iload_n 69 rfl rfl dX4_findFitting_68 ?_
          refine j_iload 71 rfl rfl dX4_findFitting_69 ?_
          refine jV2v 74 rfl dX4_findFitting_71 lk_X4_338 rfl rfl (by decide) ( rfl) ( rfl) (s_putLaw_37 (by omega) (by omega)) (fun H3 e => ?_)
          subst e
          have hm2 := hold_law hm (b := b) (c / 10) (c % 10)
          rw [kLaw_law] at hm2
          have okc : cOk (kLaw (cfg H) b (c / 10) (c % 10)) := cOk_law ok (by omega) (by omega) (by omega)
          refine j_aload_n 75 rfl rfl dX4_findFitting_74 ?_
          refine j_getr 78 rfl 11 fl_X4_60 dX4_findFitting_75 (by decide) ( rfl) ( rfl) ?_
          refine j_iload_n 79 rfl rfl dX4_findFitting_78 ?_
          refine jV1v 82 rfl dX4_findFitting_79 lk_X4_187 rfl rfl (by decide) ( rfl) ( rfl) (r_run hl hm2 okc) (fun H3 ⟨p1, p2, p3⟩ => ?_)
          have e3 : ∀ k, (k < 37 ∨ 52 < k) → H3 k = H k := fun k a => by
            rw [p1 k (by omega), jU_o (by omega), jU_o (by omega)]
            exact g1 k a
          have e52 : H3 52 = Hi 52 := by rw [p1 52 (by decide), jU_o (by decide), jU_o (by decide)]
          have hear3 : hearOk H3 := by unfold hearOk at hear ⊢; rw [e3 0 (by decide), e3 11 (by decide), e3 12 (by decide)]; exact hear
          refine j_aload_n 83 rfl rfl dX4_findFitting_82 ?_
          refine jV0i 86 rfl dX4_findFitting_83 lk_X4_191 rfl rfl (by decide) ( rfl) ( rfl) (s_isAsHeard (K := kLaw (cfg H) b (c / 10) (c % 10)) hear3 (l := l) (fun k a d => by rw [e3 11 (by decide)]; rw [e3 0 (by decide)] at d; exact hlm k a d) okc.1 (fun t t0 t1 => (p3 t t0 t1).1)) (fun r4 H4 ⟨eh_, hr4⟩ => ?_)
          obtain rfl := eh_.symm
          rw [e3 0 (by decide), e3 11 (by decide), e3 12 (by decide)] at hr4
          have hgd : gdB H b c = asB (H 11) (H 12) (H 0 6) (kLaw (cfg H) b (c / 10) (c % 10)) := by
            unfold gdB kCode
            rcases hcc with q | q <;> simp [q]
          refine j_if_eq 100 89 (by decide) rfl dX4_findFitting_86 (by intro hR; first | omega | exact hR _ _ | exact jb_r _ | exact hR0 _ _ | assumption) (fun h4 => ?_) (fun h4 => ?_)
          · refine skip ?_ H3 e3 ⟨_, _, p2⟩ e52
            rw [hgd]
            rcases hr4 with ⟨a, _⟩ | ⟨_, a⟩
            · omega
            · exact a
          · have hg : gdB H b c = true := by
              rw [hgd]
              rcases hr4 with ⟨_, a⟩ | ⟨a, _⟩
              · exact a
              · omega
            rw [hg] at ih
            simp only [if_true] at ih
            refine j_aload_n 90 rfl rfl dX4_findFitting_89 ?_
            refine j_getr 93 rfl 12 fl_X4_63 dX4_findFitting_90 (by decide) ( rfl) ( rfl) ?_
            refine j_iload_n 94 rfl rfl dX4_findFitting_93 ?_
            refine j_iload 96 rfl rfl dX4_findFitting_94 ?_
            refine j_iast 97 rfl dX4_findFitting_96 (by decide) rfl (by decide) rfl (by omega) (by intro hR; first | omega | exact hR _ _ | exact jb_r _ | exact hR0 _ _ | assumption) ?_
            refine j_iinc 100 rfl rfl st_5_3 (by decide) rfl dX4_findFitting_97 ?_
            refine j_iinc 103 rfl rfl st_5_4 (by decide) rfl dX4_findFitting_100 ?_
            refine j_goto 33 (by decide) dX4_findFitting_103 ?_
            refine ih _ ⟨fun k a => by rw [jU_o (by omega)]; exact e3 k a, ⟨c / 10, c % 10, ?_⟩, fun q a1 a2 a3 => ?_⟩
            · obtain ⟨w1, w2, w3, w4⟩ := p2
              refine ⟨by rw [jU_k (by decide)]; exact w1, by rw [jU_k (by decide)]; exact w2, fun i i0 i1 => ?_, fun t t0 t1 => ?_⟩
              · rw [jU_k (by decide), jU_k (by decide), jU_k (by decide), jU_k (by decide)]; exact w3 i i0 i1
              · rw [jU_k (by decide), jU_k (by decide), jU_k (by decide)]; exact w4 t t0 t1
            · by_cases hq : q = c
              · subst hq; rw [jU_s]
              · have hlt : cntI (gdB H b) q < cntI (gdB H b) c := by
                  have m1 := cntI_mono (gdB H b) (m := q + 1) (n := c) (by omega) (by omega)
                  rw [cntI_s _ a1, a3] at m1
                  simp only [if_true] at m1
                  omega
                rw [jU_i (by omega), e52]
                exact g3 q a1 (by omega) a3
        refine j_if_ne 64 54 (by decide) rfl dX4_findFitting_51 (by intro hR; first | omega | exact hR _ _ | exact jb_r _ | exact hR0 _ _ | assumption) (fun h4 => ?_) (fun h4 => ?_)
        · exact main (Or.inl h4)
        · refine j_iload 56 rfl rfl dX4_findFitting_54 ?_
          refine j_bipush 58 rfl rfl dX4_findFitting_56 ?_
          refine j_icmp_eq 64 61 (by decide) rfl dX4_findFitting_58 (by intro hR; first | omega | exact hR _ _ | exact jb_r _ | exact hR0 _ _ | assumption) (by intro hR; first | omega | exact hR _ _ | exact jb_r _ | exact hR0 _ _ | assumption) (fun h5 => ?_) (fun h5 => ?_)
          · exact main (Or.inr h5)
          · refine j_goto 100 (by decide) dX4_findFitting_61 ?_
            exact skip (gd_0 H b c h4 h5) Hi g1 g2 rfl
theorem cq_trial {H H' : jH} (h : CI H) (f : ∀ k, (k < 37 ∨ 55 < k) → H' k = H k) : CQ H H' := CQ.of h (fun k _ b => f k b) (fun j => by rw [f 0 (by decide)])
-- X4_learn
theorem s_learn {b i : Int} (hb : -2147483648 ≤ b ∧ b ≤ 2147483647) (hi : -2147483648 ≤ i ∧ i ≤ 2147483647) (h : CI H) : jOk E mX4_learn [jRF E 0, .int (jI b), .int (jI i)] H (jQi fun r H' => CQ H H' ∧ ((¬ (0 ≤ b ∧ b < H 1 3 ∧ -1 ≤ i ∧ i < 37) ∧ r = -2) ∨ ((0 ≤ b ∧ b < H 1 3) ∧ i = -1 ∧ r = cntI (gdB H b) 41) ∨ ((0 ≤ b ∧ b < H 1 3) ∧ (0 ≤ i ∧ i < 37) ∧ i < cntI (gdB H b) 41 ∧ 0 ≤ r ∧ r < 41 ∧ gdB H b r = true ∧ cntI (gdB H b) r = i) ∨ ((0 ≤ b ∧ b < H 1 3) ∧ (0 ≤ i ∧ i < 37) ∧ cntI (gdB H b) 41 ≤ i ∧ r = -1))) := by
  have hn := parsed_n h.1.1 h.1.2.1
  have kth : ∀ n : Nat, i < cntI (gdB H b) n → 0 ≤ i → ∃ c : Int, 0 ≤ c ∧ c < n ∧ gdB H b c = true ∧ cntI (gdB H b) c = i := by
    intro n
    induction n with
    | zero => intro q q0; rw [show ((0 : Nat) : Int) = 0 from rfl, cntI_0] at q; omega
    | succ n ih =>
      intro q q0
      rw [show ((n + 1 : Nat) : Int) = (n : Int) + 1 by omega, cntI_s _ (by omega)] at q
      by_cases hq : i < cntI (gdB H b) n
      · obtain ⟨c, a1, a2, a3⟩ := ih hq q0
        exact ⟨c, a1, by omega, a3⟩
      · cases hg : gdB H b n with
        | true =>
          rw [hg] at q
          simp only [if_true] at q
          exact ⟨n, by omega, by omega, hg, by omega⟩
        | false =>
          rw [hg] at q
          simp at q
          omega
  have hcr := cntI_r (gdB H b) (n := 41) (by omega)
  by_cases hok : (0 ≤ b ∧ b < H 1 3 ∧ -1 ≤ i ∧ i < 37)
  rotate_left
  · refine jOk.rng (fun hR0 => ?_)
    refine jOk.ofe rfl (Nat.le_of_ble_eq_true rfl) (en_aii_4 (E := E)) ?_
    refine j_aload_n 1 rfl rfl dX4_learn_0 ?_
    refine j_iload_n 2 rfl rfl dX4_learn_1 ?_
    refine jV1i 5 rfl dX4_learn_2 lk_X4_89 rfl rfl (by decide) ( rfl) ( rfl) (s_isBox (by omega)) (fun r2 H1 ⟨eh_, hr2⟩ => ?_)
    obtain rfl := eh_.symm
    refine j_if_eq 19 8 (by decide) rfl dX4_learn_5 (by intro hR; first | omega | exact hR _ _ | exact jb_r _ | exact hR0 _ _ | assumption) (fun h5 => ?_) (fun h5 => ?_)
    · refine j_bipush 21 rfl rfl dX4_learn_19 ?_
      refine j_ireti dX4_learn_21 rfl ?_
      exact ⟨CQ.refl h, Or.inl ⟨by omega, rfl⟩⟩
    · refine j_iload_n 9 rfl rfl dX4_learn_8 ?_
      refine j_iconst 10 rfl dX4_learn_9 ?_
      refine j_icmp_lt 19 13 (by decide) rfl dX4_learn_10 (by intro hR; first | omega | exact hR _ _ | exact jb_r _ | exact hR0 _ _ | assumption) (by intro hR; first | omega | exact hR _ _ | exact jb_r _ | exact hR0 _ _ | assumption) (fun h10 => ?_) (fun h10 => ?_)
      · refine j_bipush 21 rfl rfl dX4_learn_19 ?_
        refine j_ireti dX4_learn_21 rfl ?_
        exact ⟨CQ.refl h, Or.inl ⟨by omega, rfl⟩⟩
      · refine j_iload_n 14 rfl rfl dX4_learn_13 ?_
        refine j_bipush 16 rfl rfl dX4_learn_14 ?_
        refine j_icmp_lt 22 19 (by decide) rfl dX4_learn_16 (by intro hR; first | omega | exact hR _ _ | exact jb_r _ | exact hR0 _ _ | assumption) (by intro hR; first | omega | exact hR _ _ | exact jb_r _ | exact hR0 _ _ | assumption) (fun h16 => ?_) (fun h16 => ?_)
        · exfalso; omega
        · refine j_bipush 21 rfl rfl dX4_learn_19 ?_
          refine j_ireti dX4_learn_21 rfl ?_
          exact ⟨CQ.refl h, Or.inl ⟨by omega, rfl⟩⟩
  refine jOk.rng (fun hR0 => ?_)
  refine jOk.ofe rfl (Nat.le_of_ble_eq_true rfl) (en_aii_4 (E := E)) ?_
  refine j_aload_n 1 rfl rfl dX4_learn_0 ?_
  refine j_iload_n 2 rfl rfl dX4_learn_1 ?_
  refine jV1i 5 rfl dX4_learn_2 lk_X4_89 rfl rfl (by decide) ( rfl) ( rfl) (s_isBox (by omega)) (fun r2 H1 ⟨eh_, hr2⟩ => ?_)
  obtain rfl := eh_.symm
  refine j_if_eq 19 8 (by decide) rfl dX4_learn_5 (by intro hR; first | omega | exact hR _ _ | exact jb_r _ | exact hR0 _ _ | assumption) (fun h5 => ?_) (fun h5 => ?_)
  · exfalso; omega
  refine j_iload_n 9 rfl rfl dX4_learn_8 ?_
  refine j_iconst 10 rfl dX4_learn_9 ?_
  refine j_icmp_lt 19 13 (by decide) rfl dX4_learn_10 (by intro hR; first | omega | exact hR _ _ | exact jb_r _ | exact hR0 _ _ | assumption) (by intro hR; first | omega | exact hR _ _ | exact jb_r _ | exact hR0 _ _ | assumption) (fun h10 => ?_) (fun h10 => ?_)
  · exfalso; omega
  refine j_iload_n 14 rfl rfl dX4_learn_13 ?_
  refine j_bipush 16 rfl rfl dX4_learn_14 ?_
  refine j_icmp_lt 22 19 (by decide) rfl dX4_learn_16 (by intro hR; first | omega | exact hR _ _ | exact jb_r _ | exact hR0 _ _ | assumption) (by intro hR; first | omega | exact hR _ _ | exact jb_r _ | exact hR0 _ _ | assumption) (fun h16 => ?_) (fun h16 => ?_)
  rotate_left
  · exfalso; omega
  refine j_aload_n 23 rfl rfl dX4_learn_22 ?_
  refine j_iload_n 24 rfl rfl dX4_learn_23 ?_
  refine jV1i 27 rfl dX4_learn_24 lk_X4_180 rfl rfl (by decide) ( rfl) ( rfl) (s_findFitting (by omega) h) (fun x H1 ⟨q1, q2, q3, q4⟩ => ?_)
  subst q3
  have hcq := cq_trial h (fun k a => q1 k (by omega))
  refine j_istore_n 28 rfl st_4_3 (by decide) rfl dX4_learn_27 ?_
  refine j_iload_n 29 rfl rfl dX4_learn_28 ?_
  refine j_iconst 30 rfl dX4_learn_29 ?_
  refine j_icmp_ne 35 33 (by decide) rfl dX4_learn_30 (by intro hR; first | omega | exact hR _ _ | exact jb_r _ | exact hR0 _ _ | assumption) (by intro hR; first | omega | exact hR _ _ | exact jb_r _ | exact hR0 _ _ | assumption) (fun h2 => ?_) (fun h2 => ?_)
  · refine j_iload_n 36 rfl rfl dX4_learn_35 ?_
    refine j_iload_n 37 rfl rfl dX4_learn_36 ?_
    refine j_icmp_ge 49 40 (by decide) rfl dX4_learn_37 (by intro hR; first | omega | exact hR _ _ | exact jb_r _ | exact hR0 _ _ | assumption) (by intro hR; first | omega | exact hR _ _ | exact jb_r _ | exact hR0 _ _ | assumption) (fun h3 => ?_) (fun h3 => ?_)
    · refine j_iconst 50 rfl dX4_learn_49 ?_
      refine j_ireti dX4_learn_50 rfl ?_
      exact ⟨hcq, Or.inr (Or.inr (Or.inr ⟨by omega, by omega, h3, rfl⟩))⟩
    · obtain ⟨c, c0, c1, c2, c3⟩ := kth 41 (by exact h3) (by omega)
      have c4 := q4 c c0 (by omega) c2
      rw [c3] at c4
      refine j_aload_n 41 rfl rfl dX4_learn_40 ?_
      refine j_getr 44 rfl 12 fl_X4_63 dX4_learn_41 (by decide) ( rfl) ( rfl) ?_
      refine j_iload_n 45 rfl rfl dX4_learn_44 ?_
      refine j_iald 46 rfl dX4_learn_45 (by decide) rfl (by decide) rfl (by omega) ?_
      refine j_goto 50 (by decide) dX4_learn_46 ?_
      refine j_ireti dX4_learn_50 rfl ?_
      refine ⟨hcq, Or.inr (Or.inr (Or.inl ⟨by omega, by omega, h3, ?_⟩))⟩
      rw [c4]
      exact ⟨c0, by omega, c2, c3⟩
  · refine j_iload_n 34 rfl rfl dX4_learn_33 ?_
    refine j_ireti dX4_learn_34 rfl ?_
    exact ⟨hcq, Or.inr (Or.inl ⟨by omega, h2, rfl⟩)⟩
-- X4_empty
set_option maxHeartbeats 1000000 in
theorem s_empty (h : CI H) : jOk E mX4_empty [jRF E 0] H (jQi fun r H' => CQ H H' ∧ r = mkI (fun b => asB (H 11) (H 12) (H 0 6) (kLaw (cfg H) b 4 (H 4 b))) (H 1 3)) := by
  have hn := parsed_n h.1.1 h.1.2.1
  have ok := cfg_ok h.1
  have hear := h.1.2.2.2.2.2.1
  obtain ⟨ff, hff⟩ : ∃ ff, ff = (fun b => asB (H 11) (H 12) (H 0 6) (kLaw (cfg H) b 4 (H 4 b))) := ⟨_, rfl⟩
  rw [← hff]
  refine jOk.rng (fun hR0 => ?_)
  refine jOk.ofe rfl (Nat.le_of_ble_eq_true rfl) (en_a_5 (E := E)) ?_
  refine j_aload_n 1 rfl rfl dX4_empty_0 ?_
  refine j_getr 4 rfl 11 fl_X4_60 dX4_empty_1 (by decide) ( rfl) ( rfl) ?_
  refine j_aload_n 5 rfl rfl dX4_empty_4 ?_
  refine j_getr 8 rfl 0 fl_X4_12 dX4_empty_5 (by decide) ( rfl) ( rfl) ?_
  refine j_aload_n 9 rfl rfl dX4_empty_8 ?_
  refine j_getr 12 rfl 1 fl_X4_16 dX4_empty_9 (by decide) ( rfl) ( rfl) ?_
  refine j_aload_n 13 rfl rfl dX4_empty_12 ?_
  refine g_geti 16 rfl 2 2 rfl fl_X4_20 dX4_empty_13 (by decide) ( rfl) ( rfl) ?_
  refine j_aload_n 17 rfl rfl dX4_empty_16 ?_
  refine j_getr 20 rfl 3 fl_X4_27 dX4_empty_17 (by decide) ( rfl) ( rfl) ?_
  refine jV4v 23 rfl dX4_empty_20 lk_X4_161 rfl rfl (by decide) ( rfl) ( rfl) (r_load h.1) (fun H1 ⟨f0, hh0⟩ => ?_)
  have hear1 : hearOk H1 := by unfold hearOk at hear ⊢; rw [f0 0 (by decide), f0 11 (by decide), f0 12 (by decide)]; exact hear
  refine j_aload_n 24 rfl rfl dX4_empty_23 ?_
  refine jV0i 27 rfl dX4_empty_24 lk_X4_183 rfl rfl (by decide) ( rfl) ( rfl) (s_lastHeardStep hear1) (fun l H2 ⟨eh_, hl, hlm⟩ => ?_)
  obtain rfl := eh_.symm
  rw [f0 0 (by decide), f0 11 (by decide)] at hlm
  refine j_istore_n 28 rfl st_5_1 (by decide) rfl dX4_empty_27 ?_
  refine j_iconst 29 rfl dX4_empty_28 ?_
  refine j_istore_n 30 rfl st_5_2 (by decide) rfl dX4_empty_29 ?_
  refine j_iconst 31 rfl dX4_empty_30 ?_
  refine j_istore_n 32 rfl st_5_3 (by decide) rfl dX4_empty_31 ?_
  have loop := jUp 0 (H 1 3) (fun i => ∀ Hi x4, (tFr H Hi ∧ hold 37 Hi (cfg H)) → jWP E mX4_empty (jQi fun r H' => CQ H H' ∧ r = mkI ff (H 1 3)) 32 [some (jRF E 0), some (.int (jI l)), some (.int (jI (mkI ff i))), some (.int (jI i)), x4] [] Hi) ?_ ?_ 0 (by omega) (by omega)
  · exact loop H1 none ⟨f0, hh0⟩
  · rintro Hi x4 ⟨g1, g2⟩
    refine j_iload_n 33 rfl rfl dX4_empty_32 ?_
    refine j_aload_n 34 rfl rfl dX4_empty_33 ?_
    refine j_getr 37 rfl 0 fl_X4_12 dX4_empty_34 (by decide) ( rfl) ( rfl) ?_
    refine g_geti 40 rfl 3 3 rfl fl_X4_173 dX4_empty_37 (by decide) ( rfl) ( rfl) ?_
    rw [g1 1 (by decide)]
    refine j_icmp_ge 102 43 (by decide) rfl dX4_empty_40 (by intro hR; first | omega | exact hR _ _ | exact jb_r _ | exact hR0 _ _ | assumption) (by intro hR; first | omega | exact hR _ _ | exact jb_r _ | exact hR0 _ _ | assumption) (fun h2 => ?_) (fun h2 => ?_)
    · refine j_iload_n 103 rfl rfl dX4_empty_102 ?_
      refine j_ireti dX4_empty_103 rfl ?_
      exact ⟨cq_trial h (fun k a => g1 k (by omega)), rfl⟩
    · exfalso; omega
  · rintro i h0 h1 ih Hi x4 ⟨g1, g2⟩
    have hbi := parsed_b h.1.1 h.1.2.1 h0 h1
    have el : Hi 38 i = H 3 i := (g2.2.2.1 i h0 (by omega)).1
    have en : Hi 39 i = H 4 i := (g2.2.2.1 i h0 (by omega)).2.1
    rw [mkI_s _ h0] at ih
    refine j_iload_n 33 rfl rfl dX4_empty_32 ?_
    refine j_aload_n 34 rfl rfl dX4_empty_33 ?_
    refine j_getr 37 rfl 0 fl_X4_12 dX4_empty_34 (by decide) ( rfl) ( rfl) ?_
    refine g_geti 40 rfl 3 3 rfl fl_X4_173 dX4_empty_37 (by decide) ( rfl) ( rfl) ?_
    rw [g1 1 (by decide)]
    refine j_icmp_ge 102 43 (by decide) rfl dX4_empty_40 (by intro hR; first | omega | exact hR _ _ | exact jb_r _ | exact hR0 _ _ | assumption) (by intro hR; first | omega | exact hR _ _ | exact jb_r _ | exact hR0 _ _ | assumption) (fun h2 => ?_) (fun h2 => ?_)
    · exfalso; omega
    · refine j_aload_n 44 rfl rfl dX4_empty_43 ?_
      refine j_getr 47 rfl 11 fl_X4_60 dX4_empty_44 (by decide) ( rfl) ( rfl) ?_
      refine j_getr 50 rfl 1 fl_X4_186 dX4_empty_47 (by decide) ( rfl) ( rfl) ?_
      refine j_iload_n 51 rfl rfl dX4_empty_50 ?_
      refine j_iald 52 rfl dX4_empty_51 (by decide) rfl (by decide) rfl (by omega) ?_
      rw [el]
      refine j_istore 54 rfl st_5_4 (by decide) rfl dX4_empty_52 ?_
      refine j_aload_n 55 rfl rfl dX4_empty_54 ?_
      refine j_getr 58 rfl 11 fl_X4_60 dX4_empty_55 (by decide) ( rfl) ( rfl) ?_
      refine j_getr 61 rfl 1 fl_X4_186 dX4_empty_58 (by decide) ( rfl) ( rfl) ?_
      refine j_iload_n 62 rfl rfl dX4_empty_61 ?_
      refine j_iconst 63 rfl dX4_empty_62 ?_
      refine j_iast 64 rfl dX4_empty_63 (by decide) rfl (by decide) rfl (by omega) (by intro hR; first | omega | exact hR _ _ | exact jb_r _ | exact hR0 _ _ | assumption) ?_
      refine j_aload_n 65 rfl rfl dX4_empty_64 ?_
      refine j_getr 68 rfl 11 fl_X4_60 dX4_empty_65 (by decide) ( rfl) ( rfl) ?_
      refine j_iload_n 69 rfl rfl dX4_empty_68 ?_
      have hm := hold_law g2 (b := i) 4 (H 4 i)
      have hsame : jU (jU Hi 38 i 4) 39 i (H 4 i) = jU Hi 38 i 4 := by
        funext a q
        by_cases ha : a = 39 ∧ q = i
        · obtain ⟨rfl, rfl⟩ := ha
          rw [jU_s, jU_k (by decide), en]
        · unfold jU
          rw [if_neg ha]
      rw [hsame] at hm
      have okc : cOk (kLaw (cfg H) i 4 (H 4 i)) := cOk_law ok (by omega) (by omega) (by omega)
      refine jV1v 72 rfl dX4_empty_69 lk_X4_187 rfl rfl (by decide) ( rfl) ( rfl) (r_run hl hm okc) (fun H3 ⟨p1, p2, p3⟩ => ?_)
      have e3 : tFr H H3 := fun k a => by
        rw [p1 k a, jU_o (by omega)]
        exact g1 k a
      have hear3 : hearOk H3 := by unfold hearOk at hear ⊢; rw [e3 0 (by decide), e3 11 (by decide), e3 12 (by decide)]; exact hear
      refine j_aload_n 73 rfl rfl dX4_empty_72 ?_
      refine jV0i 76 rfl dX4_empty_73 lk_X4_191 rfl rfl (by decide) ( rfl) ( rfl) (s_isAsHeard (K := kLaw (cfg H) i 4 (H 4 i)) hear3 (l := l) (fun k a d => by rw [e3 11 (by decide)]; rw [e3 0 (by decide)] at d; exact hlm k a d) okc.1 (fun t t0 t1 => (p3 t t0 t1).1)) (fun r4 H4 ⟨eh_, hr4⟩ => ?_)
      obtain rfl := eh_.symm
      rw [e3 0 (by decide), e3 11 (by decide), e3 12 (by decide)] at hr4
      have hfi : ff i = asB (H 11) (H 12) (H 0 6) (kLaw (cfg H) i 4 (H 4 i)) := by rw [hff]
      have hbk : hold 37 (jU H3 38 i (H 3 i)) (cfg H) := by
        have q := hold_law p2 (b := i) (H 3 i) (H 4 i)
        rw [kLaw_law] at q
        have e1 : kLaw (cfg H) i (H 3 i) (H 4 i) = cfg H := kLaw_self (cfg H) i
        have e2 : jU (jU H3 38 i (H 3 i)) 39 i (H 4 i) = jU H3 38 i (H 3 i) := by
          funext a z
          by_cases ha : a = 39 ∧ z = i
          · obtain ⟨rfl, rfl⟩ := ha
            rw [jU_s, jU_k (by decide)]
            have := (p2.2.2.1 z h0 (by omega)).2.1
            rw [kLaw_2, if_pos rfl] at this
            exact this.symm
          · unfold jU
            rw [if_neg ha]
        rw [e1, e2] at q
        exact q
      have hfb : tFr H (jU H3 38 i (H 3 i)) := fun k a => by rw [jU_o (by omega)]; exact e3 k a
      rcases hr4 with ⟨a, a2⟩ | ⟨a, a2⟩
      · rw [← hfi] at a2
        rw [a2] at ih
        simp only [if_true] at ih
        rw [← mkI_or ff (by omega)] at ih
        refine j_if_eq 85 79 (by decide) rfl dX4_empty_76 (by intro hR; first | omega | exact hR _ _ | exact jb_r _ | exact hR0 _ _ | assumption) (fun h4 => ?_) (fun h4 => ?_)
        · exfalso; omega
        · refine j_iload_n 80 rfl rfl dX4_empty_79 ?_
          refine j_iconst 81 rfl dX4_empty_80 ?_
          refine j_iload_n 82 rfl rfl dX4_empty_81 ?_
          refine k_ishl 83 rfl dX4_empty_82 ?_
          refine k_ior 84 rfl dX4_empty_83 ?_
          refine j_istore_n 85 rfl st_5_2 (by decide) rfl dX4_empty_84 ?_
          refine j_aload_n 86 rfl rfl dX4_empty_85 ?_
          refine j_getr 89 rfl 11 fl_X4_60 dX4_empty_86 (by decide) ( rfl) ( rfl) ?_
          refine j_getr 92 rfl 1 fl_X4_186 dX4_empty_89 (by decide) ( rfl) ( rfl) ?_
          refine j_iload_n 93 rfl rfl dX4_empty_92 ?_
          refine j_iload 95 rfl rfl dX4_empty_93 ?_
          refine j_iast 96 rfl dX4_empty_95 (by decide) rfl (by decide) rfl (by omega) (by intro hR; first | omega | exact hR _ _ | exact jb_r _ | exact hR0 _ _ | assumption) ?_
          refine j_iinc 99 rfl rfl st_5_3 (by decide) rfl dX4_empty_96 ?_
          refine j_goto 32 (by decide) dX4_empty_99 ?_
          exact ih _ _ ⟨hfb, hbk⟩
      · rw [← hfi] at a2
        rw [a2] at ih
        simp only [Bool.false_eq_true, if_false, Int.add_zero] at ih
        refine j_if_eq 85 79 (by decide) rfl dX4_empty_76 (by intro hR; first | omega | exact hR _ _ | exact jb_r _ | exact hR0 _ _ | assumption) (fun h4 => ?_) (fun h4 => ?_)
        · refine j_aload_n 86 rfl rfl dX4_empty_85 ?_
          refine j_getr 89 rfl 11 fl_X4_60 dX4_empty_86 (by decide) ( rfl) ( rfl) ?_
          refine j_getr 92 rfl 1 fl_X4_186 dX4_empty_89 (by decide) ( rfl) ( rfl) ?_
          refine j_iload_n 93 rfl rfl dX4_empty_92 ?_
          refine j_iload 95 rfl rfl dX4_empty_93 ?_
          refine j_iast 96 rfl dX4_empty_95 (by decide) rfl (by decide) rfl (by omega) (by intro hR; first | omega | exact hR _ _ | exact jb_r _ | exact hR0 _ _ | assumption) ?_
          refine j_iinc 99 rfl rfl st_5_3 (by decide) rfl dX4_empty_96 ?_
          refine j_goto 32 (by decide) dX4_empty_99 ?_
          exact ih _ _ ⟨hfb, hbk⟩
        · exfalso; omega
end S24
