/-! ===== the class: looks ===== -/
def upW1 (K : jH) (c b t w : Int) : Int := if bt (pU (kLook K b w t) t) b then wt c w (t + 1) else 0
def upW (K : jH) (c b t : Int) : Int := sumI (upW1 K c b t) (2 ^ (t + 1).toNat)
theorem p2_all : ∀ t : Fin 10, bShl 1 (((t : Nat) : Int) + 1) = 2 ^ (((t : Nat) : Int) + 1).toNat ∧ (2 : Int) ^ (((t : Nat) : Int) + 1).toNat ≤ 1024 ∧ 1 ≤ (2 : Int) ^ (((t : Nat) : Int) + 1).toNat := by decide +kernel
theorem p2_t {t : Int} (h : 0 ≤ t ∧ t < 10) : bShl 1 (t + 1) = 2 ^ (t + 1).toNat ∧ (2 : Int) ^ (t + 1).toNat ≤ 1024 ∧ 1 ≤ (2 : Int) ^ (t + 1).toNat := by
  have := p2_all ⟨t.toNat, by omega⟩
  simp only [Int.toNat_of_nonneg h.1] at this
  exact this
theorem sumN_le {f g : Int → Int} : ∀ n : Nat, (∀ k : Nat, k < n → f k ≤ g k) → sumN f n ≤ sumN g n
  | 0, _ => Int.le_refl _
  | n + 1, h => by
    have := sumN_le n (fun k hk => h k (by omega))
    have := h n (by omega)
    rw [sumN, sumN]
    omega
theorem sumN_0 : ∀ n : Nat, sumN (fun _ => 0) n = 0
  | 0 => rfl
  | n + 1 => by rw [sumN, sumN_0 n]; rfl
theorem upW_all (c : Int) {t : Int} (ht : 0 ≤ t ∧ t < 10) : sumI (fun w => wt c w (t + 1)) (2 ^ (t + 1).toNat) = p16 (t + 1) := by
  have h := wt_all c (t + 1).toNat (by omega)
  unfold sumI p16
  have e : ((2 : Int) ^ (t + 1).toNat).toNat = 2 ^ (t + 1).toNat := by
    have : (2 : Int) ^ (t + 1).toNat = ((2 ^ (t + 1).toNat : Nat) : Int) := by norm_cast
    rw [this, Int.toNat_natCast]
  rw [e]
  exact h
theorem upW_r {K : jH} {c b t : Int} (hc : 0 ≤ c ∧ c ≤ 16) (ht : 0 ≤ t ∧ t < 10) : 0 ≤ upW K c b t ∧ upW K c b t ≤ p16 (t + 1) := by
  have ha := upW_all c ht
  rw [← ha]
  unfold upW sumI
  constructor
  · rw [← sumN_0 ((2 : Int) ^ (t + 1).toNat).toNat]
    exact sumN_le _ (fun k _ => by
      have := wt_r hc k (n := t + 1) (by omega)
      unfold upW1
      split <;> omega)
  · exact sumN_le _ (fun k _ => by
      have := wt_r hc k (n := t + 1) (by omega)
      unfold upW1
      split <;> omega)
theorem upW_no {K : jH} {c b t : Int} (hb : 0 ≤ b ∧ b < K 0 0) (hn : 0 ≤ K 0 0 ∧ K 0 0 ≤ 9) (hl : K 1 b ≠ 2) (ht : 0 ≤ t ∧ t < 10) : upW K c b t = if bt (pU K t) b then p16 (t + 1) else 0 := by
  have e : ∀ w, upW1 K c b t w = if bt (pU K t) b then wt c w (t + 1) else 0 := fun w => by
    unfold upW1
    have hk : kEq K (kLook K b w t) := (look_eq (by omega) hl hn.2 w ht.2).symm
    rw [← pU_cong hk hn (by omega)]
  unfold upW
  cases h : bt (pU K t) b with
  | true =>
    simp only [if_true]
    rw [← upW_all c ht]
    exact sumI_cong (fun w _ _ => by rw [e w, h]; simp)
  | false =>
    simp only [Bool.false_eq_true, if_false]
    have : sumI (upW1 K c b t) (2 ^ (t + 1).toNat) = sumI (fun _ => 0) (2 ^ (t + 1).toNat) := sumI_cong (fun w _ _ => by rw [e w, h]; simp)
    rw [this]
    exact sumN_0 _
section S27
variable {E : jE} {H K : jH}
-- X4_weightUp
set_option maxHeartbeats 1000000 in
theorem s_weightUp {c b t : Int} (hc : 0 ≤ c ∧ c ≤ 16) (hb : 0 ≤ b ∧ b < H 1 3) (ht : 0 ≤ t ∧ t < 10) (h : CI H) : jOk E mX4_weightUp [jRF E 0, .int (jI c), .int (jI b), .int (jI t)] H (jQl fun r H' => tFr H H' ∧ r = upW (cfg H) c b t) := by
  have hn := parsed_n h.1.1 h.1.2.1
  have ok := cfg_ok h.1
  have hbl := parsed_b h.1.1 h.1.2.1 hb.1 hb.2
  have h2t := p2_t ht
  refine jOk.rng (fun hR0 => ?_)
  refine jOk.ofe rfl (Nat.le_of_ble_eq_true rfl) (en_aiii_10 (E := E)) ?_
  refine j_aload_n 1 rfl rfl dX4_weightUp_0 ?_
  refine j_getr 4 rfl 11 fl_X4_60 dX4_weightUp_1 (by decide) ( rfl) ( rfl) ?_
  refine j_aload_n 5 rfl rfl dX4_weightUp_4 ?_
  refine j_getr 8 rfl 0 fl_X4_12 dX4_weightUp_5 (by decide) ( rfl) ( rfl) ?_
  refine j_aload_n 9 rfl rfl dX4_weightUp_8 ?_
  refine j_getr 12 rfl 1 fl_X4_16 dX4_weightUp_9 (by decide) ( rfl) ( rfl) ?_
  refine j_aload_n 13 rfl rfl dX4_weightUp_12 ?_
  refine g_geti 16 rfl 2 2 rfl fl_X4_20 dX4_weightUp_13 (by decide) ( rfl) ( rfl) ?_
  refine j_aload_n 17 rfl rfl dX4_weightUp_16 ?_
  refine j_getr 20 rfl 3 fl_X4_27 dX4_weightUp_17 (by decide) ( rfl) ( rfl) ?_
  refine jV4v 23 rfl dX4_weightUp_20 lk_X4_161 rfl rfl (by decide) ( rfl) ( rfl) (r_load h.1) (fun H1 ⟨f0, hh0⟩ => ?_)
  have e3 : H1 3 = H 3 := f0 3 (by decide)
  refine j_aload_n 24 rfl rfl dX4_weightUp_23 ?_
  refine j_getr 27 rfl 0 fl_X4_12 dX4_weightUp_24 (by decide) ( rfl) ( rfl) ?_
  refine j_getr 30 rfl 4 fl_X4_93 dX4_weightUp_27 (by decide) ( rfl) ( rfl) ?_
  refine j_iload_n 31 rfl rfl dX4_weightUp_30 ?_
  refine j_iald 32 rfl dX4_weightUp_31 (by decide) rfl (by decide) rfl (by omega) ?_
  rw [e3]
  refine j_iconst 33 rfl dX4_weightUp_32 ?_
  refine j_icmp_eq 65 36 (by decide) rfl dX4_weightUp_33 (by intro hR; first | omega | exact hR _ _ | exact jb_r _ | exact hR0 _ _ | assumption) (by intro hR; first | omega | exact hR _ _ | exact jb_r _ | exact hR0 _ _ | assumption) (fun hl => ?_) (fun hl => ?_)
  · refine j_lconst 66 rfl (x := 0) rfl dX4_weightUp_65 ?_
    refine j_lstore 68 rfl su_10_4 (by decide) (Nat.le_of_ble_eq_true rfl) rfl dX4_weightUp_66 ?_
    refine j_iconst 69 rfl dX4_weightUp_68 ?_
    refine j_iload_n 70 rfl rfl dX4_weightUp_69 ?_
    refine j_iconst 71 rfl dX4_weightUp_70 ?_
    refine j_iadd 72 rfl dX4_weightUp_71 ?_
    refine k_ishl 73 rfl dX4_weightUp_72 ?_
    rw [h2t.1]
    refine j_istore 75 rfl st_10_6 (by decide) rfl dX4_weightUp_73 ?_
    refine j_iconst 76 rfl dX4_weightUp_75 ?_
    refine j_istore 78 rfl st_10_7 (by decide) rfl dX4_weightUp_76 ?_
    have loop := jUp 0 (2 ^ (t + 1).toNat) (fun w => ∀ Hi x8 x9, tFr H Hi → (hold 37 Hi (cfg H) ∨ ∃ w0, hold 37 Hi (kLook (cfg H) b w0 t)) → jWP E mX4_weightUp (jQl fun r H' => tFr H H' ∧ r = upW (cfg H) c b t) 78 [some (jRF E 0), some (.int (jI c)), some (.int (jI b)), some (.int (jI t)), some (.long (jL (sumI (upW1 (cfg H) c b t) w))), none, some (.int (jI (2 ^ (t + 1).toNat))), some (.int (jI w)), x8, x9] [] Hi) ?_ ?_ 0 (by omega) (by omega)
    · exact loop H1 none none f0 (Or.inl hh0)
    · intro Hi x8 x9 g1 g2
      refine j_iload 80 rfl rfl dX4_weightUp_78 ?_
      refine j_iload 82 rfl rfl dX4_weightUp_80 ?_
      refine j_icmp_ge 148 85 (by decide) rfl dX4_weightUp_82 (by intro hR; first | omega | exact hR _ _ | exact jb_r _ | exact hR0 _ _ | assumption) (by intro hR; first | omega | exact hR _ _ | exact jb_r _ | exact hR0 _ _ | assumption) (fun h2 => ?_) (fun h2 => ?_)
      · refine j_lload 150 rfl rfl dX4_weightUp_148 ?_
        refine j_lretl dX4_weightUp_150 rfl ?_
        exact ⟨g1, rfl⟩
      · exfalso; omega
    · intro w w0 w1 ih Hi x8 x9 g1 g2
      rw [sumI_s _ w0] at ih
      have hwt := wt_r hc w (n := t + 1) (by omega)
      refine j_iload 80 rfl rfl dX4_weightUp_78 ?_
      refine j_iload 82 rfl rfl dX4_weightUp_80 ?_
      refine j_icmp_ge 148 85 (by decide) rfl dX4_weightUp_82 (by intro hR; first | omega | exact hR _ _ | exact jb_r _ | exact hR0 _ _ | assumption) (by intro hR; first | omega | exact hR _ _ | exact jb_r _ | exact hR0 _ _ | assumption) (fun h2 => ?_) (fun h2 => ?_)
      · exfalso; omega
      · refine j_iload_n 86 rfl rfl dX4_weightUp_85 ?_
        refine j_iload 88 rfl rfl dX4_weightUp_86 ?_
        refine j_iload_n 89 rfl rfl dX4_weightUp_88 ?_
        refine jS3l 92 rfl dX4_weightUp_89 lk_X4_350 rfl rfl (s_weight hc ht) (fun r1 H2 ⟨eh_, hr1⟩ => ?_)
        obtain rfl := eh_.symm
        subst hr1
        refine j_lstore 94 rfl su_10_8 (by decide) (Nat.le_of_ble_eq_true rfl) rfl dX4_weightUp_92 ?_
        refine j_lload 96 rfl rfl dX4_weightUp_94 ?_
        refine j_lconst 97 rfl (x := 0) rfl dX4_weightUp_96 ?_
        refine j_lcmp 98 rfl dX4_weightUp_97 (by intro hR; first | omega | exact jb_r64 _ | (have := hR; omega)) (by intro hR; first | omega | exact jb_r64 _ | (have := hR; omega)) ?_
        have hcr := jCmp_r (wt c w (t + 1)) 0
        refine j_if_ne 104 101 (by decide) rfl dX4_weightUp_98 (by intro hR; first | omega | exact hR _ _ | exact jb_r _ | exact hR0 _ _ | assumption) (fun h3 => ?_) (fun h3 => ?_)
        · have hne : wt c w (t + 1) ≠ 0 := fun e => h3 ((jCmp_eq _ 0).mpr e)
          have g2' : ∃ w0, hold 37 Hi (cfg H) ∨ hold 37 Hi (kLook (cfg H) b w0 t) := by
            rcases g2 with g | ⟨w0, g⟩
            · exact ⟨0, Or.inl g⟩
            · exact ⟨w0, Or.inr g⟩
          obtain ⟨wo, g3⟩ := g2'
          have okl := cOk_look ok (b := b) (by omega) w ht.2
          refine j_aload_n 105 rfl rfl dX4_weightUp_104 ?_
          refine j_getr 108 rfl 11 fl_X4_60 dX4_weightUp_105 (by decide) ( rfl) ( rfl) ?_
          refine j_iload_n 109 rfl rfl dX4_weightUp_108 ?_
          refine j_iload 111 rfl rfl dX4_weightUp_109 ?_
          refine j_iload_n 112 rfl rfl dX4_weightUp_111 ?_
          refine jV3v 115 rfl dX4_weightUp_112 lk_X4_353 rfl rfl (by decide) ( rfl) ( rfl) (s_putLooks_37 (by omega) (by omega)) (fun H3 e => ?_)
          subst e
          have hl3 := hold_look ok (b := b) (by omega) wo ht g3 w
          refine j_aload_n 116 rfl rfl dX4_weightUp_115 ?_
          refine j_getr 119 rfl 11 fl_X4_60 dX4_weightUp_116 (by decide) ( rfl) ( rfl) ?_
          refine j_iload_n 120 rfl rfl dX4_weightUp_119 ?_
          refine jV1v 123 rfl dX4_weightUp_120 lk_X4_187 rfl rfl (by decide) ( rfl) ( rfl) (r_run (by omega) hl3 okl) (fun H3 ⟨q1, q2, q3⟩ => ?_)
          have g4 : tFr H H3 := fun k a => by rw [q1 k a, jMp_o (by omega)]; exact g1 k a
          have eu := (q3 t (by omega) (by omega)).2
          refine j_aload_n 124 rfl rfl dX4_weightUp_123 ?_
          refine j_getr 127 rfl 11 fl_X4_60 dX4_weightUp_124 (by decide) ( rfl) ( rfl) ?_
          refine j_iload_n 128 rfl rfl dX4_weightUp_127 ?_
          refine j_iload_n 129 rfl rfl dX4_weightUp_128 ?_
          refine jV2i 132 rfl dX4_weightUp_129 lk_X4_347 rfl rfl (by decide) ( rfl) ( rfl) (s_isUp_37 (by omega) (by omega)) (fun r4 H4 ⟨eh_, hr4⟩ => ?_)
          obtain rfl := eh_.symm
          rw [eu] at hr4
          unfold upW1 at ih
          refine j_if_eq 142 135 (by decide) rfl dX4_weightUp_132 (by intro hR; first | omega | exact hR _ _ | exact jb_r _ | exact hR0 _ _ | assumption) (fun h5 => ?_) (fun h5 => ?_)
          · rcases hr4 with ⟨a, _⟩ | ⟨_, a⟩
            · omega
            · rw [a] at ih
              simp only [Bool.false_eq_true, if_false, Int.add_zero] at ih
              refine j_iinc 145 rfl rfl st_10_7 (by decide) rfl dX4_weightUp_142 ?_
              refine j_goto 78 (by decide) dX4_weightUp_145 ?_
              exact ih H3 _ _ g4 (Or.inr ⟨w, q2⟩)
          · rcases hr4 with ⟨_, a⟩ | ⟨a, _⟩
            · rw [a] at ih
              simp only [if_true] at ih
              refine j_lload 137 rfl rfl dX4_weightUp_135 ?_
              refine j_lload 139 rfl rfl dX4_weightUp_137 ?_
              refine j_ladd 140 rfl dX4_weightUp_139 ?_
              refine j_lstore 142 rfl su_10_4 (by decide) (Nat.le_of_ble_eq_true rfl) rfl dX4_weightUp_140 ?_
              refine j_iinc 145 rfl rfl st_10_7 (by decide) rfl dX4_weightUp_142 ?_
              refine j_goto 78 (by decide) dX4_weightUp_145 ?_
              exact ih H3 _ _ g4 (Or.inr ⟨w, q2⟩)
            · omega
        · have he : wt c w (t + 1) = 0 := (jCmp_eq _ 0).mp (by omega)
          have e0 : upW1 (cfg H) c b t w = 0 := by
            unfold upW1
            rw [he]
            split <;> rfl
          rw [e0, Int.add_zero] at ih
          refine j_goto 142 (by decide) dX4_weightUp_101 ?_
          refine j_iinc 145 rfl rfl st_10_7 (by decide) rfl dX4_weightUp_142 ?_
          refine j_goto 78 (by decide) dX4_weightUp_145 ?_
          exact ih Hi _ _ g1 g2
  · have hno := upW_no (K := cfg H) (c := c) (b := b) (t := t) hb hn hl ht
    refine j_aload_n 37 rfl rfl dX4_weightUp_36 ?_
    refine j_getr 40 rfl 11 fl_X4_60 dX4_weightUp_37 (by decide) ( rfl) ( rfl) ?_
    refine j_iload_n 41 rfl rfl dX4_weightUp_40 ?_
    refine jV1v 44 rfl dX4_weightUp_41 lk_X4_187 rfl rfl (by decide) ( rfl) ( rfl) (r_run (by omega) hh0 ok) (fun H3 ⟨q1, q2, q3⟩ => ?_)
    have g4 : tFr H H3 := fun k a => by rw [q1 k a]; exact f0 k a
    have eu := (q3 t (by omega) (by omega)).2
    refine j_aload_n 45 rfl rfl dX4_weightUp_44 ?_
    refine j_getr 48 rfl 11 fl_X4_60 dX4_weightUp_45 (by decide) ( rfl) ( rfl) ?_
    refine j_iload_n 49 rfl rfl dX4_weightUp_48 ?_
    refine j_iload_n 50 rfl rfl dX4_weightUp_49 ?_
    refine jV2i 53 rfl dX4_weightUp_50 lk_X4_347 rfl rfl (by decide) ( rfl) ( rfl) (s_isUp_37 (by omega) (by omega)) (fun r4 H4 ⟨eh_, hr4⟩ => ?_)
    obtain rfl := eh_.symm
    rw [eu] at hr4
    refine j_if_eq 63 56 (by decide) rfl dX4_weightUp_53 (by intro hR; first | omega | exact hR _ _ | exact jb_r _ | exact hR0 _ _ | assumption) (fun h5 => ?_) (fun h5 => ?_)
    · rcases hr4 with ⟨a, _⟩ | ⟨_, a⟩
      · omega
      · rw [a] at hno
        refine j_lconst 64 rfl (x := 0) rfl dX4_weightUp_63 ?_
        refine j_lretl dX4_weightUp_64 rfl ?_
        exact ⟨g4, hno.symm⟩
    · rcases hr4 with ⟨_, a⟩ | ⟨a, _⟩
      · rw [a] at hno
        refine j_iload_n 57 rfl rfl dX4_weightUp_56 ?_
        refine jS1l 60 rfl dX4_weightUp_57 lk_X4_201 rfl rfl (s_wholeWeight ht) (fun r5 H5 ⟨eh_, hr5⟩ => ?_)
        obtain rfl := eh_.symm
        subst hr5
        refine j_goto 64 (by decide) dX4_weightUp_60 ?_
        refine j_lretl dX4_weightUp_64 rfl ?_
        exact ⟨g4, hno.symm⟩
      · omega
-- X4_looks
/-- what looks tells -/
def lkR (K : jH) (c b t w : Int) : Int := if w = 0 then upW K c b t / (Int.gcd (p16 (t + 1)) (upW K c b t) : Int) else p16 (t + 1) / (Int.gcd (p16 (t + 1)) (upW K c b t) : Int)
theorem s_looks {c b t w : Int} (hc : -2147483648 ≤ c ∧ c ≤ 2147483647) (hb : -2147483648 ≤ b ∧ b ≤ 2147483647) (ht : -2147483648 ≤ t ∧ t ≤ 2147483647) (hw : -2147483648 ≤ w ∧ w ≤ 2147483647) (h : CI H) : jOk E mX4_looks [jRF E 0, .int (jI c), .int (jI b), .int (jI t), .int (jI w)] H (jQl fun r H' => CQ H H' ∧ ((¬ (0 ≤ c ∧ c ≤ 16 ∧ 0 ≤ b ∧ b < H 1 3 ∧ 0 ≤ t ∧ t < 10 ∧ (w = 0 ∨ w = 1)) ∧ r = -9223372036854775806) ∨ ((0 ≤ c ∧ c ≤ 16 ∧ 0 ≤ b ∧ b < H 1 3 ∧ 0 ≤ t ∧ t < 10 ∧ (w = 0 ∨ w = 1)) ∧ r = lkR (cfg H) c b t w))) := by
  have hn := parsed_n h.1.1 h.1.2.1
  by_cases hok : (0 ≤ c ∧ c ≤ 16 ∧ 0 ≤ b ∧ b < H 1 3 ∧ 0 ≤ t ∧ t < 10 ∧ (w = 0 ∨ w = 1))
  rotate_left
  · refine jOk.rng (fun hR0 => ?_)
    refine jOk.ofe rfl (Nat.le_of_ble_eq_true rfl) (en_aiiii_11 (E := E)) ?_
    refine j_iload_n 1 rfl rfl dX4_looks_0 ?_
    refine j_if_lt 36 4 (by decide) rfl dX4_looks_1 (by intro hR; first | omega | exact hR _ _ | exact jb_r _ | exact hR0 _ _ | assumption) (fun h1 => ?_) (fun h1 => ?_)
    · refine j_ldc2 39 rfl kc_X4_199 dX4_looks_36 ?_
      refine j_lretl dX4_looks_39 rfl ?_
      exact ⟨CQ.refl h, Or.inl ⟨by omega, rfl⟩⟩
    · refine j_iload_n 5 rfl rfl dX4_looks_4 ?_
      refine j_bipush 7 rfl rfl dX4_looks_5 ?_
      refine j_icmp_gt 36 10 (by decide) rfl dX4_looks_7 (by intro hR; first | omega | exact hR _ _ | exact jb_r _ | exact hR0 _ _ | assumption) (by intro hR; first | omega | exact hR _ _ | exact jb_r _ | exact hR0 _ _ | assumption) (fun h7 => ?_) (fun h7 => ?_)
      · refine j_ldc2 39 rfl kc_X4_199 dX4_looks_36 ?_
        refine j_lretl dX4_looks_39 rfl ?_
        exact ⟨CQ.refl h, Or.inl ⟨by omega, rfl⟩⟩
      · refine j_aload_n 11 rfl rfl dX4_looks_10 ?_
        refine j_iload_n 12 rfl rfl dX4_looks_11 ?_
        refine jV1i 15 rfl dX4_looks_12 lk_X4_89 rfl rfl (by decide) ( rfl) ( rfl) (s_isBox (by omega)) (fun r12 H1 ⟨eh_, hr12⟩ => ?_)
        obtain rfl := eh_.symm
        refine j_if_eq 36 18 (by decide) rfl dX4_looks_15 (by intro hR; first | omega | exact hR _ _ | exact jb_r _ | exact hR0 _ _ | assumption) (fun h15 => ?_) (fun h15 => ?_)
        · refine j_ldc2 39 rfl kc_X4_199 dX4_looks_36 ?_
          refine j_lretl dX4_looks_39 rfl ?_
          exact ⟨CQ.refl h, Or.inl ⟨by omega, rfl⟩⟩
        · refine j_iload_n 19 rfl rfl dX4_looks_18 ?_
          refine j_if_lt 36 22 (by decide) rfl dX4_looks_19 (by intro hR; first | omega | exact hR _ _ | exact jb_r _ | exact hR0 _ _ | assumption) (fun h19 => ?_) (fun h19 => ?_)
          · refine j_ldc2 39 rfl kc_X4_199 dX4_looks_36 ?_
            refine j_lretl dX4_looks_39 rfl ?_
            exact ⟨CQ.refl h, Or.inl ⟨by omega, rfl⟩⟩
          · refine j_iload_n 23 rfl rfl dX4_looks_22 ?_
            refine j_bipush 25 rfl rfl dX4_looks_23 ?_
            refine j_icmp_gt 36 28 (by decide) rfl dX4_looks_25 (by intro hR; first | omega | exact hR _ _ | exact jb_r _ | exact hR0 _ _ | assumption) (by intro hR; first | omega | exact hR _ _ | exact jb_r _ | exact hR0 _ _ | assumption) (fun h25 => ?_) (fun h25 => ?_)
            · refine j_ldc2 39 rfl kc_X4_199 dX4_looks_36 ?_
              refine j_lretl dX4_looks_39 rfl ?_
              exact ⟨CQ.refl h, Or.inl ⟨by omega, rfl⟩⟩
            · refine j_iload 30 rfl rfl dX4_looks_28 ?_
              refine jS1i 33 rfl dX4_looks_30 lk_X4_140 rfl rfl (s_isEither (by omega)) (fun r30 H1 ⟨eh_, hr30⟩ => ?_)
              obtain rfl := eh_.symm
              refine j_if_ne 40 36 (by decide) rfl dX4_looks_33 (by intro hR; first | omega | exact hR _ _ | exact jb_r _ | exact hR0 _ _ | assumption) (fun h33 => ?_) (fun h33 => ?_)
              · exfalso; omega
              · refine j_ldc2 39 rfl kc_X4_199 dX4_looks_36 ?_
                refine j_lretl dX4_looks_39 rfl ?_
                exact ⟨CQ.refl h, Or.inl ⟨by omega, rfl⟩⟩
  have h16 := p16_r (n := t + 1) (by omega)
  have hu := upW_r (K := cfg H) (c := c) (b := b) (t := t) (by omega) (by omega)
  obtain ⟨g, hg⟩ : ∃ g : Int, g = (Int.gcd (p16 (t + 1)) (upW (cfg H) c b t) : Int) := ⟨_, rfl⟩
  have hgp : 1 ≤ g ∧ g ≤ p16 (t + 1) := by
    have h1 : 0 < Int.gcd (p16 (t + 1)) (upW (cfg H) c b t) := Int.gcd_pos_of_ne_zero_left _ (by omega)
    have h2 : (Int.gcd (p16 (t + 1)) (upW (cfg H) c b t) : Int) ≤ p16 (t + 1) := Int.le_of_dvd (by omega) (Int.gcd_dvd_left ..)
    omega
  refine jOk.rng (fun hR0 => ?_)
  refine jOk.ofe rfl (Nat.le_of_ble_eq_true rfl) (en_aiiii_11 (E := E)) ?_
  refine j_iload_n 1 rfl rfl dX4_looks_0 ?_
  refine j_if_lt 36 4 (by decide) rfl dX4_looks_1 (by intro hR; first | omega | exact hR _ _ | exact jb_r _ | exact hR0 _ _ | assumption) (fun h1 => ?_) (fun h1 => ?_)
  · exfalso; omega
  refine j_iload_n 5 rfl rfl dX4_looks_4 ?_
  refine j_bipush 7 rfl rfl dX4_looks_5 ?_
  refine j_icmp_gt 36 10 (by decide) rfl dX4_looks_7 (by intro hR; first | omega | exact hR _ _ | exact jb_r _ | exact hR0 _ _ | assumption) (by intro hR; first | omega | exact hR _ _ | exact jb_r _ | exact hR0 _ _ | assumption) (fun h7 => ?_) (fun h7 => ?_)
  · exfalso; omega
  refine j_aload_n 11 rfl rfl dX4_looks_10 ?_
  refine j_iload_n 12 rfl rfl dX4_looks_11 ?_
  refine jV1i 15 rfl dX4_looks_12 lk_X4_89 rfl rfl (by decide) ( rfl) ( rfl) (s_isBox (by omega)) (fun r12 H1 ⟨eh_, hr12⟩ => ?_)
  obtain rfl := eh_.symm
  refine j_if_eq 36 18 (by decide) rfl dX4_looks_15 (by intro hR; first | omega | exact hR _ _ | exact jb_r _ | exact hR0 _ _ | assumption) (fun h15 => ?_) (fun h15 => ?_)
  · exfalso; omega
  refine j_iload_n 19 rfl rfl dX4_looks_18 ?_
  refine j_if_lt 36 22 (by decide) rfl dX4_looks_19 (by intro hR; first | omega | exact hR _ _ | exact jb_r _ | exact hR0 _ _ | assumption) (fun h19 => ?_) (fun h19 => ?_)
  · exfalso; omega
  refine j_iload_n 23 rfl rfl dX4_looks_22 ?_
  refine j_bipush 25 rfl rfl dX4_looks_23 ?_
  refine j_icmp_gt 36 28 (by decide) rfl dX4_looks_25 (by intro hR; first | omega | exact hR _ _ | exact jb_r _ | exact hR0 _ _ | assumption) (by intro hR; first | omega | exact hR _ _ | exact jb_r _ | exact hR0 _ _ | assumption) (fun h25 => ?_) (fun h25 => ?_)
  · exfalso; omega
  refine j_iload 30 rfl rfl dX4_looks_28 ?_
  refine jS1i 33 rfl dX4_looks_30 lk_X4_140 rfl rfl (s_isEither (by omega)) (fun r30 H1 ⟨eh_, hr30⟩ => ?_)
  obtain rfl := eh_.symm
  refine j_if_ne 40 36 (by decide) rfl dX4_looks_33 (by intro hR; first | omega | exact hR _ _ | exact jb_r _ | exact hR0 _ _ | assumption) (fun h33 => ?_) (fun h33 => ?_)
  rotate_left
  · exfalso; omega
  refine j_iload_n 41 rfl rfl dX4_looks_40 ?_
  refine jS1l 44 rfl dX4_looks_41 lk_X4_201 rfl rfl (s_wholeWeight (by omega)) (fun r1 H1 ⟨eh_, hr1⟩ => ?_)
  obtain rfl := eh_.symm
  subst hr1
  refine j_lstore 46 rfl su_11_5 (by decide) (Nat.le_of_ble_eq_true rfl) rfl dX4_looks_44 ?_
  refine j_aload_n 47 rfl rfl dX4_looks_46 ?_
  refine j_iload_n 48 rfl rfl dX4_looks_47 ?_
  refine j_iload_n 49 rfl rfl dX4_looks_48 ?_
  refine j_iload_n 50 rfl rfl dX4_looks_49 ?_
  refine jV3l 53 rfl dX4_looks_50 lk_X4_205 rfl rfl (by decide) ( rfl) ( rfl) (s_weightUp (by omega) (by omega) (by omega) h) (fun r2 H2 ⟨f2, hr2⟩ => ?_)
  subst hr2
  have hcq : CQ H H2 := cq_trial h (fun k a => f2 k (by omega))
  refine j_lstore 55 rfl su_11_7 (by decide) (Nat.le_of_ble_eq_true rfl) rfl dX4_looks_53 ?_
  refine j_lload 57 rfl rfl dX4_looks_55 ?_
  refine j_lload 59 rfl rfl dX4_looks_57 ?_
  refine jS2l 62 rfl dX4_looks_59 lk_X4_209 rfl rfl (s_commonDivisor (by omega) (by omega)) (fun r3 H3 ⟨eh_, hr3⟩ => ?_)
  obtain rfl := eh_.symm
  rw [← hg] at hr3
  subst hr3
  refine j_lstore 64 rfl su_11_9 (by decide) (Nat.le_of_ble_eq_true rfl) rfl dX4_looks_62 ?_
  refine j_lload 66 rfl rfl dX4_looks_64 ?_
  refine j_lconst 67 rfl (x := 0) rfl dX4_looks_66 ?_
  refine j_lcmp 68 rfl dX4_looks_67 (by intro hR; first | omega | exact jb_r64 _ | (have := hR; omega)) (by intro hR; first | omega | exact jb_r64 _ | (have := hR; omega)) ?_
  have hcr := jCmp_r r3 0
  refine j_if_ne 75 71 (by decide) rfl dX4_looks_68 (by intro hR; first | omega | exact hR _ _ | exact jb_r _ | exact hR0 _ _ | assumption) (fun h5 => ?_) (fun h5 => ?_)
  · refine j_iload 77 rfl rfl dX4_looks_75 ?_
    refine j_if_ne 85 80 (by decide) rfl dX4_looks_77 (by intro hR; first | omega | exact hR _ _ | exact jb_r _ | exact hR0 _ _ | assumption) (fun h6 => ?_) (fun h6 => ?_)
    · refine j_lload 87 rfl rfl dX4_looks_85 ?_
      refine j_lload 89 rfl rfl dX4_looks_87 ?_
      refine k_ldiv 90 rfl (by omega) (by intro hR; first | omega | exact jb_r64 _ | (have := hR; omega)) dX4_looks_89 ?_
      rw [lDiv_n (by omega) (by omega)]
      refine j_lretl dX4_looks_90 rfl ?_
      refine ⟨hcq, Or.inr ⟨hok, ?_⟩⟩
      unfold lkR
      rw [if_neg h6, ← hg]
    · refine j_lload 82 rfl rfl dX4_looks_80 ?_
      refine j_goto 87 (by decide) dX4_looks_82 ?_
      refine j_lload 89 rfl rfl dX4_looks_87 ?_
      refine k_ldiv 90 rfl (by omega) (by intro hR; first | omega | exact jb_r64 _ | (have := hR; omega)) dX4_looks_89 ?_
      rw [lDiv_n (by omega) (by omega)]
      refine j_lretl dX4_looks_90 rfl ?_
      refine ⟨hcq, Or.inr ⟨hok, ?_⟩⟩
      unfold lkR
      rw [if_pos (by omega), ← hg]
  · have := (jCmp_eq r3 0).mp (by omega)
    exfalso; omega
end S27
