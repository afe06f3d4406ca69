/-! ===== the class: digest ===== -/
section S31
variable {E : jE} {H K : jH}
-- X4_digestBox
set_option maxHeartbeats 1000000 in
theorem s_digestBox {h0 b : Int} (hb : 0 ≤ b ∧ b < H 1 3) (h : CI H) : jOk E mX4_digestBox [jRF E 0, .long (jL h0), .int (jI b)] H (jQl fun r H' => CQ H H' ∧ r = dgB H h0 b) := by
  have hn := parsed_n h.1.1 h.1.2.1
  refine jOk.rng (fun hR0 => ?_)
  refine jOk.ofe rfl (Nat.le_of_ble_eq_true rfl) (en_ali_7 (E := E)) ?_
  refine j_lload_n 1 rfl rfl dX4_digestBox_0 ?_
  refine j_lstore 3 rfl su_7_4 (by decide) (Nat.le_of_ble_eq_true rfl) rfl dX4_digestBox_1 ?_
  refine j_iconst 4 rfl dX4_digestBox_3 ?_
  refine j_istore 6 rfl st_7_6 (by decide) rfl dX4_digestBox_4 ?_
  refine j_iload 8 rfl rfl dX4_digestBox_6 ?_
  refine j_iconst 9 rfl dX4_digestBox_8 ?_
  refine j_icmp_gt 35 12 (by decide) rfl dX4_digestBox_9 (by intro hR; omega) (by intro hR; omega) (fun hq => absurd hq (by omega)) (fun hq0 => ?_)
  refine j_ldc2 15 rfl kc_X4_255 dX4_digestBox_12 ?_
  refine j_lload 17 rfl rfl dX4_digestBox_15 ?_
  refine j_lmul 18 rfl dX4_digestBox_17 ?_
  refine j_aload_n 19 rfl rfl dX4_digestBox_18 ?_
  refine j_iload_n 20 rfl rfl dX4_digestBox_19 ?_
  refine j_iload 22 rfl rfl dX4_digestBox_20 ?_
  refine jV2i 25 rfl dX4_digestBox_22 lk_X4_298 rfl rfl (by decide) ( rfl) ( rfl) (s_box (by omega) (by omega) hn) (fun r0 Hx0 ⟨eh_, hr0⟩ => ?_)
  obtain rfl := eh_.symm
  have er0 : r0 = H 3 b := by omega
  rw [er0]
  refine k_i2l 26 rfl dX4_digestBox_25 ?_
  refine j_ladd 27 rfl dX4_digestBox_26 ?_
  refine j_lstore 29 rfl su_7_4 (by decide) (Nat.le_of_ble_eq_true rfl) rfl dX4_digestBox_27 ?_
  refine j_iinc 32 rfl rfl st_7_6 (by decide) rfl dX4_digestBox_29 ?_
  refine j_goto 6 (by decide) dX4_digestBox_32 ?_
  refine j_iload 8 rfl rfl dX4_digestBox_6 ?_
  refine j_iconst 9 rfl dX4_digestBox_8 ?_
  refine j_icmp_gt 35 12 (by decide) rfl dX4_digestBox_9 (by intro hR; omega) (by intro hR; omega) (fun hq => absurd hq (by omega)) (fun hq1 => ?_)
  refine j_ldc2 15 rfl kc_X4_255 dX4_digestBox_12 ?_
  refine j_lload 17 rfl rfl dX4_digestBox_15 ?_
  refine j_lmul 18 rfl dX4_digestBox_17 ?_
  refine j_aload_n 19 rfl rfl dX4_digestBox_18 ?_
  refine j_iload_n 20 rfl rfl dX4_digestBox_19 ?_
  refine j_iload 22 rfl rfl dX4_digestBox_20 ?_
  refine jV2i 25 rfl dX4_digestBox_22 lk_X4_298 rfl rfl (by decide) ( rfl) ( rfl) (s_box (by omega) (by omega) hn) (fun r1 Hx1 ⟨eh_, hr1⟩ => ?_)
  obtain rfl := eh_.symm
  have er1 : r1 = H 4 b := by omega
  rw [er1]
  refine k_i2l 26 rfl dX4_digestBox_25 ?_
  refine j_ladd 27 rfl dX4_digestBox_26 ?_
  refine j_lstore 29 rfl su_7_4 (by decide) (Nat.le_of_ble_eq_true rfl) rfl dX4_digestBox_27 ?_
  refine j_iinc 32 rfl rfl st_7_6 (by decide) rfl dX4_digestBox_29 ?_
  refine j_goto 6 (by decide) dX4_digestBox_32 ?_
  refine j_iload 8 rfl rfl dX4_digestBox_6 ?_
  refine j_iconst 9 rfl dX4_digestBox_8 ?_
  refine j_icmp_gt 35 12 (by decide) rfl dX4_digestBox_9 (by intro hR; omega) (by intro hR; omega) (fun hq => absurd hq (by omega)) (fun hq2 => ?_)
  refine j_ldc2 15 rfl kc_X4_255 dX4_digestBox_12 ?_
  refine j_lload 17 rfl rfl dX4_digestBox_15 ?_
  refine j_lmul 18 rfl dX4_digestBox_17 ?_
  refine j_aload_n 19 rfl rfl dX4_digestBox_18 ?_
  refine j_iload_n 20 rfl rfl dX4_digestBox_19 ?_
  refine j_iload 22 rfl rfl dX4_digestBox_20 ?_
  refine jV2i 25 rfl dX4_digestBox_22 lk_X4_298 rfl rfl (by decide) ( rfl) ( rfl) (s_box (by omega) (by omega) hn) (fun r2 Hx2 ⟨eh_, hr2⟩ => ?_)
  obtain rfl := eh_.symm
  have er2 : r2 = H 5 b := by omega
  rw [er2]
  refine k_i2l 26 rfl dX4_digestBox_25 ?_
  refine j_ladd 27 rfl dX4_digestBox_26 ?_
  refine j_lstore 29 rfl su_7_4 (by decide) (Nat.le_of_ble_eq_true rfl) rfl dX4_digestBox_27 ?_
  refine j_iinc 32 rfl rfl st_7_6 (by decide) rfl dX4_digestBox_29 ?_
  refine j_goto 6 (by decide) dX4_digestBox_32 ?_
  refine j_iload 8 rfl rfl dX4_digestBox_6 ?_
  refine j_iconst 9 rfl dX4_digestBox_8 ?_
  refine j_icmp_gt 35 12 (by decide) rfl dX4_digestBox_9 (by intro hR; omega) (by intro hR; omega) (fun hq3 => ?_) (fun hq => absurd hq (by omega))
  have cq0 : CQ H H := CQ.refl h
  refine j_ldc2 38 rfl kc_X4_255 dX4_digestBox_35 ?_
  refine j_lload 40 rfl rfl dX4_digestBox_38 ?_
  refine j_lmul 41 rfl dX4_digestBox_40 ?_
  refine j_aload_n 42 rfl rfl dX4_digestBox_41 ?_
  refine j_iload_n 43 rfl rfl dX4_digestBox_42 ?_
  refine jV1i 46 rfl dX4_digestBox_43 lk_X4_301 rfl rfl (by decide) ( rfl) ( rfl) (s_first (by omega) cq0.2.2) (fun v0 Hy0 ⟨cp0, hv0⟩ => ?_)
  have hw0 : anFirst H b v0 := by
    have hz : anFirst _ b v0 := hv0
    rw [cq0.same.first] at hz
    exact hz
  have cq1 : CQ H Hy0 := cq0.trans cp0
  rw [eps_eq (fun _ _ => anFirst_one) hw0]
  refine k_i2l 47 rfl dX4_digestBox_46 ?_
  refine j_ladd 48 rfl dX4_digestBox_47 ?_
  refine j_lstore 50 rfl su_7_4 (by decide) (Nat.le_of_ble_eq_true rfl) rfl dX4_digestBox_48 ?_
  refine j_ldc2 53 rfl kc_X4_255 dX4_digestBox_50 ?_
  refine j_lload 55 rfl rfl dX4_digestBox_53 ?_
  refine j_lmul 56 rfl dX4_digestBox_55 ?_
  refine j_aload_n 57 rfl rfl dX4_digestBox_56 ?_
  refine j_bipush 59 rfl rfl dX4_digestBox_57 ?_
  refine j_iload_n 60 rfl rfl dX4_digestBox_59 ?_
  refine jV2i 63 rfl dX4_digestBox_60 lk_X4_304 rfl rfl (by decide) ( rfl) ( rfl) (s_spring (by omega) (by omega) cq1.2.2) (fun v1 Hy1 ⟨cp1, hv1⟩ => ?_)
  have hw1 : anSpring H 9 b v1 := by
    have hz : anSpring _ 9 b v1 := hv1
    rw [cq1.same.spring] at hz
    exact hz
  have cq2 : CQ H Hy1 := cq1.trans cp1
  rw [eps_eq (fun _ _ => anSpring_one) hw1]
  refine k_i2l 64 rfl dX4_digestBox_63 ?_
  refine j_ladd 65 rfl dX4_digestBox_64 ?_
  refine j_lstore 67 rfl su_7_4 (by decide) (Nat.le_of_ble_eq_true rfl) rfl dX4_digestBox_65 ?_
  refine j_ldc2 70 rfl kc_X4_255 dX4_digestBox_67 ?_
  refine j_lload 72 rfl rfl dX4_digestBox_70 ?_
  refine j_lmul 73 rfl dX4_digestBox_72 ?_
  refine j_aload_n 74 rfl rfl dX4_digestBox_73 ?_
  refine j_iload_n 75 rfl rfl dX4_digestBox_74 ?_
  refine j_iconst 76 rfl dX4_digestBox_75 ?_
  refine jV2i 79 rfl dX4_digestBox_76 lk_X4_307 rfl rfl (by decide) ( rfl) ( rfl) (s_together (by omega) (by omega) cq2.2.2) (fun v2 Hy2 ⟨cp2, hv2⟩ => ?_)
  have hw2 : anTog H b 0 v2 := by
    have hz : anTog _ b 0 v2 := hv2
    rw [cq2.same.tog] at hz
    exact hz
  have cq3 : CQ H Hy2 := cq2.trans cp2
  rw [eps_eq (fun _ _ => anTog_one) hw2]
  refine k_i2l 80 rfl dX4_digestBox_79 ?_
  refine j_ladd 81 rfl dX4_digestBox_80 ?_
  refine j_lstore 83 rfl su_7_4 (by decide) (Nat.le_of_ble_eq_true rfl) rfl dX4_digestBox_81 ?_
  refine j_ldc2 86 rfl kc_X4_255 dX4_digestBox_83 ?_
  refine j_lload 88 rfl rfl dX4_digestBox_86 ?_
  refine j_lmul 89 rfl dX4_digestBox_88 ?_
  refine j_aload_n 90 rfl rfl dX4_digestBox_89 ?_
  refine j_iload_n 91 rfl rfl dX4_digestBox_90 ?_
  refine j_iconst 92 rfl dX4_digestBox_91 ?_
  refine jV2i 95 rfl dX4_digestBox_92 lk_X4_310 rfl rfl (by decide) ( rfl) ( rfl) (s_hears (by omega) (by omega) cq3.2.2) (fun v3 Hy3 ⟨cp3, hv3⟩ => ?_)
  have hw3 : anHears H b 2 v3 := by
    have hz : anHears _ b 2 v3 := hv3
    rw [cq3.same.hears] at hz
    exact hz
  have cq4 : CQ H Hy3 := cq3.trans cp3
  rw [eps_eq (fun _ _ => anHears_one) hw3]
  refine k_i2l 96 rfl dX4_digestBox_95 ?_
  refine j_ladd 97 rfl dX4_digestBox_96 ?_
  refine j_lstore 99 rfl su_7_4 (by decide) (Nat.le_of_ble_eq_true rfl) rfl dX4_digestBox_97 ?_
  refine j_ldc2 102 rfl kc_X4_255 dX4_digestBox_99 ?_
  refine j_lload 104 rfl rfl dX4_digestBox_102 ?_
  refine j_lmul 105 rfl dX4_digestBox_104 ?_
  refine j_aload_n 106 rfl rfl dX4_digestBox_105 ?_
  refine j_iload_n 107 rfl rfl dX4_digestBox_106 ?_
  refine j_iconst 108 rfl dX4_digestBox_107 ?_
  refine jV2i 111 rfl dX4_digestBox_108 lk_X4_313 rfl rfl (by decide) ( rfl) ( rfl) (s_learn (by omega) (by omega) cq4.2.2) (fun v4 Hy4 ⟨cp4, hv4⟩ => ?_)
  have hw4 : anLearn H b (-1) v4 := by
    have hz : anLearn _ b (-1) v4 := hv4
    rw [cq4.same.learn] at hz
    exact hz
  have cq5 : CQ H Hy4 := cq4.trans cp4
  rw [eps_eq (fun _ _ => anLearn_one) hw4]
  refine k_i2l 112 rfl dX4_digestBox_111 ?_
  refine j_ladd 113 rfl dX4_digestBox_112 ?_
  refine j_lstore 115 rfl su_7_4 (by decide) (Nat.le_of_ble_eq_true rfl) rfl dX4_digestBox_113 ?_
  refine j_ldc2 118 rfl kc_X4_255 dX4_digestBox_115 ?_
  refine j_lload 120 rfl rfl dX4_digestBox_118 ?_
  refine j_lmul 121 rfl dX4_digestBox_120 ?_
  refine j_aload_n 122 rfl rfl dX4_digestBox_121 ?_
  refine j_iload_n 123 rfl rfl dX4_digestBox_122 ?_
  refine j_iconst 124 rfl dX4_digestBox_123 ?_
  refine jV2i 127 rfl dX4_digestBox_124 lk_X4_313 rfl rfl (by decide) ( rfl) ( rfl) (s_learn (by omega) (by omega) cq5.2.2) (fun v5 Hy5 ⟨cp5, hv5⟩ => ?_)
  have hw5 : anLearn H b 0 v5 := by
    have hz : anLearn _ b 0 v5 := hv5
    rw [cq5.same.learn] at hz
    exact hz
  have cq6 : CQ H Hy5 := cq5.trans cp5
  rw [eps_eq (fun _ _ => anLearn_one) hw5]
  refine k_i2l 128 rfl dX4_digestBox_127 ?_
  refine j_ladd 129 rfl dX4_digestBox_128 ?_
  refine j_lstore 131 rfl su_7_4 (by decide) (Nat.le_of_ble_eq_true rfl) rfl dX4_digestBox_129 ?_
  refine j_ldc2 134 rfl kc_X4_255 dX4_digestBox_131 ?_
  refine j_lload 136 rfl rfl dX4_digestBox_134 ?_
  refine j_lmul 137 rfl dX4_digestBox_136 ?_
  refine j_aload_n 138 rfl rfl dX4_digestBox_137 ?_
  refine j_iconst 139 rfl dX4_digestBox_138 ?_
  refine j_iload_n 140 rfl rfl dX4_digestBox_139 ?_
  refine j_iconst 141 rfl dX4_digestBox_140 ?_
  refine j_iconst 142 rfl dX4_digestBox_141 ?_
  refine jV4l 145 rfl dX4_digestBox_142 lk_X4_316 rfl rfl (by decide) ( rfl) ( rfl) (s_looks (by omega) (by omega) (by omega) (by omega) cq6.2.2) (fun v6 Hy6 ⟨cp6, hv6⟩ => ?_)
  have hw6 : anLooks H 5 b 4 0 v6 := by
    have hz : anLooks _ 5 b 4 0 v6 := hv6
    rw [cq6.same.looks] at hz
    exact hz
  have cq7 : CQ H Hy6 := cq6.trans cp6
  rw [eps_eq (fun _ _ => anLooks_one) hw6]
  refine j_ladd 146 rfl dX4_digestBox_145 ?_
  refine j_lstore 148 rfl su_7_4 (by decide) (Nat.le_of_ble_eq_true rfl) rfl dX4_digestBox_146 ?_
  refine j_ldc2 151 rfl kc_X4_255 dX4_digestBox_148 ?_
  refine j_lload 153 rfl rfl dX4_digestBox_151 ?_
  refine j_lmul 154 rfl dX4_digestBox_153 ?_
  refine j_aload_n 155 rfl rfl dX4_digestBox_154 ?_
  refine j_iconst 156 rfl dX4_digestBox_155 ?_
  refine j_iload_n 157 rfl rfl dX4_digestBox_156 ?_
  refine j_iconst 158 rfl dX4_digestBox_157 ?_
  refine j_iconst 159 rfl dX4_digestBox_158 ?_
  refine jV4l 162 rfl dX4_digestBox_159 lk_X4_316 rfl rfl (by decide) ( rfl) ( rfl) (s_looks (by omega) (by omega) (by omega) (by omega) cq7.2.2) (fun v7 Hy7 ⟨cp7, hv7⟩ => ?_)
  have hw7 : anLooks H 5 b 4 1 v7 := by
    have hz : anLooks _ 5 b 4 1 v7 := hv7
    rw [cq7.same.looks] at hz
    exact hz
  have cq8 : CQ H Hy7 := cq7.trans cp7
  rw [eps_eq (fun _ _ => anLooks_one) hw7]
  refine j_ladd 163 rfl dX4_digestBox_162 ?_
  refine j_lretl dX4_digestBox_163 rfl ?_
  exact ⟨cq8, rfl⟩
-- X4_digest
set_option maxHeartbeats 1000000 in
theorem s_digest4 {x3 x4 x5 : Int} {v6 : Option Value} (cq0 : CQ H K) : jWP E mX4_digest (jQl fun r H' => CQ H H' ∧ r = dg3 H) 282 [some (jRF E 0), some (.long (jL (dgSh H (dg2 H) 2))), none, some (.int (jI x3)), some (.int (jI x4)), some (.int (jI x5)), v6] [] K := by
  refine j_ldc2 285 rfl kc_X4_255 dX4_digest_282 ?_
  refine j_lload_n 286 rfl rfl dX4_digest_285 ?_
  refine j_lmul 287 rfl dX4_digest_286 ?_
  refine j_aload_n 288 rfl rfl dX4_digest_287 ?_
  refine jV0i 291 rfl dX4_digest_288 lk_X4_289 rfl rfl (by decide) ( rfl) ( rfl) (s_empty cq0.2.2) (fun v0 Hy0 ⟨cp0, hv0⟩ => ?_)
  have hw0 : anEmpty H v0 := by
    have hz : anEmpty _  v0 := hv0
    rw [cq0.same.empty] at hz
    exact hz
  have cq1 : CQ H Hy0 := cq0.trans cp0
  rw [eps_eq (fun _ _ => anEmpty_one) hw0]
  refine k_i2l 292 rfl dX4_digest_291 ?_
  refine j_ladd 293 rfl dX4_digest_292 ?_
  refine j_lstore_n 294 rfl su_7_1 (by decide) (Nat.le_of_ble_eq_true rfl) rfl dX4_digest_293 ?_
  refine j_ldc2 297 rfl kc_X4_255 dX4_digest_294 ?_
  refine j_lload_n 298 rfl rfl dX4_digest_297 ?_
  refine j_lmul 299 rfl dX4_digest_298 ?_
  refine j_aload_n 300 rfl rfl dX4_digest_299 ?_
  refine j_iconst 301 rfl dX4_digest_300 ?_
  refine j_iconst 302 rfl dX4_digest_301 ?_
  refine jV2i 305 rfl dX4_digest_302 lk_X4_292 rfl rfl (by decide) ( rfl) ( rfl) (s_turn (by omega) (by omega) cq1.2.2) (fun v1 Hy1 ⟨cp1, hv1⟩ => ?_)
  have hw1 : anTurn H 0 4 v1 := by
    have hz : anTurn _ 0 4 v1 := hv1
    rw [cq1.same.turn] at hz
    exact hz
  have cq2 : CQ H Hy1 := cq1.trans cp1
  rw [eps_eq (fun _ _ => anTurn_one) hw1]
  refine k_i2l 306 rfl dX4_digest_305 ?_
  refine j_ladd 307 rfl dX4_digest_306 ?_
  refine j_lstore_n 308 rfl su_7_1 (by decide) (Nat.le_of_ble_eq_true rfl) rfl dX4_digest_307 ?_
  refine j_ldc2 311 rfl kc_X4_255 dX4_digest_308 ?_
  refine j_lload_n 312 rfl rfl dX4_digest_311 ?_
  refine j_lmul 313 rfl dX4_digest_312 ?_
  refine j_aload_n 314 rfl rfl dX4_digest_313 ?_
  refine j_bipush 316 rfl rfl dX4_digest_314 ?_
  refine j_bipush 318 rfl rfl dX4_digest_316 ?_
  refine j_iconst 319 rfl dX4_digest_318 ?_
  refine jV3i 322 rfl dX4_digest_319 lk_X4_295 rfl rfl (by decide) ( rfl) ( rfl) (s_night (by omega) (by omega) cq2.2.2) (fun v2 Hy2 ⟨cp2, hv2⟩ => ?_)
  have hw2 : anNight H 7 20 0 v2 := by
    have hz : anNight _ 7 20 0 v2 := hv2
    rw [cq2.same.night] at hz
    exact hz
  have cq3 : CQ H Hy2 := cq2.trans cp2
  rw [eps_eq (fun _ _ => anNight_one) hw2]
  refine k_i2l 323 rfl dX4_digest_322 ?_
  refine j_ladd 324 rfl dX4_digest_323 ?_
  refine j_lstore_n 325 rfl su_7_1 (by decide) (Nat.le_of_ble_eq_true rfl) rfl dX4_digest_324 ?_
  refine j_ldc2 328 rfl kc_X4_255 dX4_digest_325 ?_
  refine j_lload_n 329 rfl rfl dX4_digest_328 ?_
  refine j_lmul 330 rfl dX4_digest_329 ?_
  refine j_aload_n 331 rfl rfl dX4_digest_330 ?_
  refine j_bipush 333 rfl rfl dX4_digest_331 ?_
  refine j_bipush 335 rfl rfl dX4_digest_333 ?_
  refine j_iconst 336 rfl dX4_digest_335 ?_
  refine jV3i 339 rfl dX4_digest_336 lk_X4_295 rfl rfl (by decide) ( rfl) ( rfl) (s_night (by omega) (by omega) cq3.2.2) (fun v3 Hy3 ⟨cp3, hv3⟩ => ?_)
  have hw3 : anNight H 7 20 1 v3 := by
    have hz : anNight _ 7 20 1 v3 := hv3
    rw [cq3.same.night] at hz
    exact hz
  have cq4 : CQ H Hy3 := cq3.trans cp3
  rw [eps_eq (fun _ _ => anNight_one) hw3]
  refine k_i2l 340 rfl dX4_digest_339 ?_
  refine j_ladd 341 rfl dX4_digest_340 ?_
  refine j_lretl dX4_digest_341 rfl ?_
  exact ⟨cq4, rfl⟩
set_option maxHeartbeats 1000000 in
theorem s_digest3 {x4 x5 : Int} {v6 : Option Value} : ∀ (d : Nat) (x3 : Nat) (K : jH), x3 + d = 2 → CQ H K → jWP E mX4_digest (jQl fun r H' => CQ H H' ∧ r = dg3 H) 241 [some (jRF E 0), some (.long (jL (dgSh H (dg2 H) x3))), none, some (.int (jI x3)), some (.int (jI x4)), some (.int (jI x5)), v6] [] K
  | 0, x3, K, hd, cq0 => by
    refine j_iload_n 242 rfl rfl dX4_digest_241 ?_
    refine j_iconst 243 rfl dX4_digest_242 ?_
    refine j_icmp_gt 282 246 (by decide) rfl dX4_digest_243 (by intro hR; first | omega | exact hR _ _ | exact jb_r _ | exact hR0 _ _ | assumption) (by intro hR; first | omega | exact hR _ _ | exact jb_r _ | exact hR0 _ _ | assumption) (fun h1 => ?_) (fun h1 => ?_)
    · rw [show x3 = 2 by omega]
      exact s_digest4 cq0
    · exfalso; omega
  | d + 1, x3, K, hd, cq0 => by
    refine j_iload_n 242 rfl rfl dX4_digest_241 ?_
    refine j_iconst 243 rfl dX4_digest_242 ?_
    refine j_icmp_gt 282 246 (by decide) rfl dX4_digest_243 (by intro hR; first | omega | exact hR _ _ | exact jb_r _ | exact hR0 _ _ | assumption) (by intro hR; first | omega | exact hR _ _ | exact jb_r _ | exact hR0 _ _ | assumption) (fun h1 => ?_) (fun h1 => ?_)
    · exfalso; omega
    · refine j_ldc2 249 rfl kc_X4_255 dX4_digest_246 ?_
      refine j_lload_n 250 rfl rfl dX4_digest_249 ?_
      refine j_lmul 251 rfl dX4_digest_250 ?_
      refine j_aload_n 252 rfl rfl dX4_digest_251 ?_
      refine j_iconst 253 rfl dX4_digest_252 ?_
      refine j_iload_n 254 rfl rfl dX4_digest_253 ?_
      refine j_iconst 255 rfl dX4_digest_254 ?_
      refine jV3i 258 rfl dX4_digest_255 lk_X4_286 rfl rfl (by decide) ( rfl) ( rfl) (s_shelf (by omega) (by omega) (by omega) cq0.2.2) (fun v0 Hy0 ⟨cp0, hv0⟩ => ?_)
      have hw0 : anShelf H 3 x3 (-1) v0 := by
        have hz : anShelf _ 3 x3 (-1) v0 := hv0
        rw [cq0.same.shelf] at hz
        exact hz
      have cq1 : CQ H Hy0 := cq0.trans cp0
      rw [eps_eq (fun _ _ => anShelf_one) hw0]
      refine k_i2l 259 rfl dX4_digest_258 ?_
      refine j_ladd 260 rfl dX4_digest_259 ?_
      refine j_lstore_n 261 rfl su_7_1 (by decide) (Nat.le_of_ble_eq_true rfl) rfl dX4_digest_260 ?_
      refine j_ldc2 264 rfl kc_X4_255 dX4_digest_261 ?_
      refine j_lload_n 265 rfl rfl dX4_digest_264 ?_
      refine j_lmul 266 rfl dX4_digest_265 ?_
      refine j_aload_n 267 rfl rfl dX4_digest_266 ?_
      refine j_iconst 268 rfl dX4_digest_267 ?_
      refine j_iload_n 269 rfl rfl dX4_digest_268 ?_
      refine j_iconst 270 rfl dX4_digest_269 ?_
      refine jV3i 273 rfl dX4_digest_270 lk_X4_286 rfl rfl (by decide) ( rfl) ( rfl) (s_shelf (by omega) (by omega) (by omega) cq1.2.2) (fun v1 Hy1 ⟨cp1, hv1⟩ => ?_)
      have hw1 : anShelf H 3 x3 0 v1 := by
        have hz : anShelf _ 3 x3 0 v1 := hv1
        rw [cq1.same.shelf] at hz
        exact hz
      have cq2 : CQ H Hy1 := cq1.trans cp1
      rw [eps_eq (fun _ _ => anShelf_one) hw1]
      refine k_i2l 274 rfl dX4_digest_273 ?_
      refine j_ladd 275 rfl dX4_digest_274 ?_
      refine j_lstore_n 276 rfl su_7_1 (by decide) (Nat.le_of_ble_eq_true rfl) rfl dX4_digest_275 ?_
      refine j_iinc 279 rfl rfl st_7_3 (by decide) rfl dX4_digest_276 ?_
      refine j_goto 241 (by decide) dX4_digest_279 ?_
      exact s_digest3 d (x3 + 1) Hy1 (by omega) cq2
set_option maxHeartbeats 1000000 in
theorem s_digest2 {x4 x5 : Int} {v6 : Option Value} (cq0 : CQ H K) : jWP E mX4_digest (jQl fun r H' => CQ H H' ∧ r = dg3 H) 156 [some (jRF E 0), some (.long (jL (dg1 H))), none, some (jRF E 80), some (.int (jI x4)), some (.int (jI x5)), v6] [] K := by
  refine j_ldc2 159 rfl kc_X4_255 dX4_digest_156 ?_
  refine j_lload_n 160 rfl rfl dX4_digest_159 ?_
  refine j_lmul 161 rfl dX4_digest_160 ?_
  refine j_aload_n 162 rfl rfl dX4_digest_161 ?_
  refine jV0i 165 rfl dX4_digest_162 lk_X4_274 rfl rfl (by decide) ( rfl) ( rfl) (s_quiet cq0.2.2) (fun v0 Hy0 ⟨cp0, hv0⟩ => ?_)
  have hw0 : anQuiet H v0 := by
    have hz : anQuiet _  v0 := hv0
    rw [cq0.same.quiet] at hz
    exact hz
  have cq1 : CQ H Hy0 := cq0.trans cp0
  rw [eps_eq (fun _ _ => anQuiet_one) hw0]
  refine k_i2l 166 rfl dX4_digest_165 ?_
  refine j_ladd 167 rfl dX4_digest_166 ?_
  refine j_lstore_n 168 rfl su_7_1 (by decide) (Nat.le_of_ble_eq_true rfl) rfl dX4_digest_167 ?_
  refine j_ldc2 171 rfl kc_X4_255 dX4_digest_168 ?_
  refine j_lload_n 172 rfl rfl dX4_digest_171 ?_
  refine j_lmul 173 rfl dX4_digest_172 ?_
  refine j_aload_n 174 rfl rfl dX4_digest_173 ?_
  refine j_iconst 175 rfl dX4_digest_174 ?_
  refine jV1i 178 rfl dX4_digest_175 lk_X4_277 rfl rfl (by decide) ( rfl) ( rfl) (s_loudest (by omega) cq1.2.2) (fun v1 Hy1 ⟨cp1, hv1⟩ => ?_)
  have hw1 : anLoud H 0 v1 := by
    have hz : anLoud _ 0 v1 := hv1
    rw [cq1.same.loud] at hz
    exact hz
  have cq2 : CQ H Hy1 := cq1.trans cp1
  rw [eps_eq (fun _ _ => anLoud_one) hw1]
  refine k_i2l 179 rfl dX4_digest_178 ?_
  refine j_ladd 180 rfl dX4_digest_179 ?_
  refine j_lstore_n 181 rfl su_7_1 (by decide) (Nat.le_of_ble_eq_true rfl) rfl dX4_digest_180 ?_
  refine j_ldc2 184 rfl kc_X4_255 dX4_digest_181 ?_
  refine j_lload_n 185 rfl rfl dX4_digest_184 ?_
  refine j_lmul 186 rfl dX4_digest_185 ?_
  refine j_aload_n 187 rfl rfl dX4_digest_186 ?_
  refine j_iconst 188 rfl dX4_digest_187 ?_
  refine jV1i 191 rfl dX4_digest_188 lk_X4_277 rfl rfl (by decide) ( rfl) ( rfl) (s_loudest (by omega) cq2.2.2) (fun v2 Hy2 ⟨cp2, hv2⟩ => ?_)
  have hw2 : anLoud H 1 v2 := by
    have hz : anLoud _ 1 v2 := hv2
    rw [cq2.same.loud] at hz
    exact hz
  have cq3 : CQ H Hy2 := cq2.trans cp2
  rw [eps_eq (fun _ _ => anLoud_one) hw2]
  refine k_i2l 192 rfl dX4_digest_191 ?_
  refine j_ladd 193 rfl dX4_digest_192 ?_
  refine j_lstore_n 194 rfl su_7_1 (by decide) (Nat.le_of_ble_eq_true rfl) rfl dX4_digest_193 ?_
  refine j_ldc2 197 rfl kc_X4_255 dX4_digest_194 ?_
  refine j_lload_n 198 rfl rfl dX4_digest_197 ?_
  refine j_lmul 199 rfl dX4_digest_198 ?_
  refine j_aload_n 200 rfl rfl dX4_digest_199 ?_
  refine j_iconst 201 rfl dX4_digest_200 ?_
  refine j_iconst 202 rfl dX4_digest_201 ?_
  refine j_iconst 203 rfl dX4_digest_202 ?_
  refine jV3i 206 rfl dX4_digest_203 lk_X4_280 rfl rfl (by decide) ( rfl) ( rfl) (s_news (by omega) (by omega) (by omega) cq3.2.2) (fun v3 Hy3 ⟨cp3, hv3⟩ => ?_)
  have hw3 : anNews H 0 0 1 v3 := by
    have hz : anNews _ 0 0 1 v3 := hv3
    rw [cq3.same.news] at hz
    exact hz
  have cq4 : CQ H Hy3 := cq3.trans cp3
  rw [eps_eq (fun _ _ => anNews_one) hw3]
  refine k_i2l 207 rfl dX4_digest_206 ?_
  refine j_ladd 208 rfl dX4_digest_207 ?_
  refine j_lstore_n 209 rfl su_7_1 (by decide) (Nat.le_of_ble_eq_true rfl) rfl dX4_digest_208 ?_
  refine j_ldc2 212 rfl kc_X4_255 dX4_digest_209 ?_
  refine j_lload_n 213 rfl rfl dX4_digest_212 ?_
  refine j_lmul 214 rfl dX4_digest_213 ?_
  refine j_aload_n 215 rfl rfl dX4_digest_214 ?_
  refine j_bipush 217 rfl rfl dX4_digest_215 ?_
  refine j_iconst 218 rfl dX4_digest_217 ?_
  refine jV2i 221 rfl dX4_digest_218 lk_X4_283 rfl rfl (by decide) ( rfl) ( rfl) (s_hush (by omega) (by omega) cq4.2.2) (fun v4 Hy4 ⟨cp4, hv4⟩ => ?_)
  have hw4 : anHush H 9 0 v4 := by
    have hz : anHush _ 9 0 v4 := hv4
    rw [cq4.same.hush] at hz
    exact hz
  have cq5 : CQ H Hy4 := cq4.trans cp4
  rw [eps_eq (fun _ _ => anHush_one) hw4]
  refine k_i2l 222 rfl dX4_digest_221 ?_
  refine j_ladd 223 rfl dX4_digest_222 ?_
  refine j_lstore_n 224 rfl su_7_1 (by decide) (Nat.le_of_ble_eq_true rfl) rfl dX4_digest_223 ?_
  refine j_ldc2 227 rfl kc_X4_255 dX4_digest_224 ?_
  refine j_lload_n 228 rfl rfl dX4_digest_227 ?_
  refine j_lmul 229 rfl dX4_digest_228 ?_
  refine j_aload_n 230 rfl rfl dX4_digest_229 ?_
  refine j_bipush 232 rfl rfl dX4_digest_230 ?_
  refine j_iconst 233 rfl dX4_digest_232 ?_
  refine jV2i 236 rfl dX4_digest_233 lk_X4_283 rfl rfl (by decide) ( rfl) ( rfl) (s_hush (by omega) (by omega) cq5.2.2) (fun v5 Hy5 ⟨cp5, hv5⟩ => ?_)
  have hw5 : anHush H 9 1 v5 := by
    have hz : anHush _ 9 1 v5 := hv5
    rw [cq5.same.hush] at hz
    exact hz
  have cq6 : CQ H Hy5 := cq5.trans cp5
  rw [eps_eq (fun _ _ => anHush_one) hw5]
  refine k_i2l 237 rfl dX4_digest_236 ?_
  refine j_ladd 238 rfl dX4_digest_237 ?_
  refine j_lstore_n 239 rfl su_7_1 (by decide) (Nat.le_of_ble_eq_true rfl) rfl dX4_digest_238 ?_
  refine j_iconst 240 rfl dX4_digest_239 ?_
  refine j_istore_n 241 rfl st_7_3 (by decide) rfl dX4_digest_240 ?_
  exact s_digest3 2 0 _ rfl cq6
set_option maxHeartbeats 1000000 in
theorem s_digest1 {h0 : Int} (hh : dgS (cfg H) h0 5 = dg1 H) : ∀ (d : Nat) (x5 : Nat) (v6 : Option Value) (K : jH), x5 + d = 5 → CQ H K → jWP E mX4_digest (jQl fun r H' => CQ H H' ∧ r = dg3 H) 107 [some (jRF E 0), some (.long (jL (dgS (cfg H) h0 x5))), none, some (jRF E 80), some (.int (jI 5)), some (.int (jI x5)), v6] [] K
  | 0, x5, v6, K, hd, cq0 => by
    refine j_iload 109 rfl rfl dX4_digest_107 ?_
    refine j_iload 111 rfl rfl dX4_digest_109 ?_
    refine j_icmp_ge 156 114 (by decide) rfl dX4_digest_111 (by intro hR; first | omega | exact hR _ _ | exact jb_r _ | exact hR0 _ _ | assumption) (by intro hR; first | omega | exact hR _ _ | exact jb_r _ | exact hR0 _ _ | assumption) (fun h1 => ?_) (fun h1 => ?_)
    · rw [show x5 = 5 by omega, hh]
      exact s_digest2 cq0
    · exfalso; omega
  | d + 1, x5, v6, K, hd, cq0 => by
    have hdr := jDig_r x5
    refine j_iload 109 rfl rfl dX4_digest_107 ?_
    refine j_iload 111 rfl rfl dX4_digest_109 ?_
    refine j_icmp_ge 156 114 (by decide) rfl dX4_digest_111 (by intro hR; first | omega | exact hR _ _ | exact jb_r _ | exact hR0 _ _ | assumption) (by intro hR; first | omega | exact hR _ _ | exact jb_r _ | exact hR0 _ _ | assumption) (fun h1 => ?_) (fun h1 => ?_)
    · exfalso; omega
    · refine j_aload_n 115 rfl rfl dX4_digest_114 ?_
      refine j_iload 117 rfl rfl dX4_digest_115 ?_
      refine j_dald 118 rfl (by omega) dX4_digest_117 ?_
      refine j_istore 120 rfl st_7_6 (by decide) rfl dX4_digest_118 ?_
      refine j_ldc2 123 rfl kc_X4_255 dX4_digest_120 ?_
      refine j_lload_n 124 rfl rfl dX4_digest_123 ?_
      refine j_lmul 125 rfl dX4_digest_124 ?_
      refine j_aload_n 126 rfl rfl dX4_digest_125 ?_
      refine j_iload 128 rfl rfl dX4_digest_126 ?_
      refine j_iconst 129 rfl dX4_digest_128 ?_
      rw [Int.toNat_natCast]
      refine jV2i 132 rfl dX4_digest_129 lk_X4_271 rfl rfl (by decide) ( rfl) ( rfl) (s_step (by omega) (by omega) cq0.2.2) (fun v0 Hy0 ⟨cp0, hv0⟩ => ?_)
      have cq1 : CQ H Hy0 := cq0.trans cp0
      rw [cq0.cfg] at hv0
      have ev0 : v0 = pO (cfg H) (jDig x5) := by omega
      rw [ev0]
      refine k_i2l 133 rfl dX4_digest_132 ?_
      refine j_ladd 134 rfl dX4_digest_133 ?_
      refine j_lstore_n 135 rfl su_7_1 (by decide) (Nat.le_of_ble_eq_true rfl) rfl dX4_digest_134 ?_
      refine j_ldc2 138 rfl kc_X4_255 dX4_digest_135 ?_
      refine j_lload_n 139 rfl rfl dX4_digest_138 ?_
      refine j_lmul 140 rfl dX4_digest_139 ?_
      refine j_aload_n 141 rfl rfl dX4_digest_140 ?_
      refine j_iload 143 rfl rfl dX4_digest_141 ?_
      refine j_iconst 144 rfl dX4_digest_143 ?_
      refine jV2i 147 rfl dX4_digest_144 lk_X4_271 rfl rfl (by decide) ( rfl) ( rfl) (s_step (by omega) (by omega) cq1.2.2) (fun v1 Hy1 ⟨cp1, hv1⟩ => ?_)
      have cq2 : CQ H Hy1 := cq1.trans cp1
      rw [cq1.cfg] at hv1
      have ev1 : v1 = pU (cfg H) (jDig x5) := by omega
      rw [ev1]
      refine k_i2l 148 rfl dX4_digest_147 ?_
      refine j_ladd 149 rfl dX4_digest_148 ?_
      refine j_lstore_n 150 rfl su_7_1 (by decide) (Nat.le_of_ble_eq_true rfl) rfl dX4_digest_149 ?_
      refine j_iinc 153 rfl rfl st_7_5 (by decide) rfl dX4_digest_150 ?_
      refine j_goto 107 (by decide) dX4_digest_153 ?_
      exact s_digest1 hh d (x5 + 1) _ Hy1 (by omega) cq2
set_option maxHeartbeats 1000000 in
theorem s_digest0 {h0 : Int} (hh : dgBx H h0 (H 1 3).toNat = dgBx H (dgN (H 6) (31 * dgN (fCount H) 17 8 + w32 (H 1 2)) 9) (H 1 3).toNat) (h : CI H) : ∀ (d : Nat) (x3 : Nat) (K : jH), (x3 : Int) + d = H 1 3 → CQ H K → jWP E mX4_digest (jQl fun r H' => CQ H H' ∧ r = dg3 H) 72 [some (jRF E 0), some (.long (jL (dgBx H h0 x3))), none, some (.int (jI x3)), none, none, none] [] K
  | 0, x3, K, hd, cq0 => by
    have hn := parsed_n h.1.1 h.1.2.1
    have e1 : K 1 3 = H 1 3 := by rw [cq0.1 1 (by decide) (by decide)]
    refine j_iload_n 73 rfl rfl dX4_digest_72 ?_
    refine j_aload_n 74 rfl rfl dX4_digest_73 ?_
    refine j_getr 77 rfl 0 fl_X4_12 dX4_digest_74 (by decide) ( rfl) ( rfl) ?_
    refine g_geti 80 rfl 3 3 rfl fl_X4_173 dX4_digest_77 (by decide) ( rfl) ( rfl) ?_
    rw [e1]
    refine j_icmp_ge 96 83 (by decide) rfl dX4_digest_80 (by intro hR; first | omega | exact hR _ _ | exact jb_r _ | exact hR0 _ _ | assumption) (by intro hR; first | omega | exact hR _ _ | exact jb_r _ | exact hR0 _ _ | assumption) (fun h1 => ?_) (fun h1 => ?_)
    · have ex : x3 = (H 1 3).toNat := by omega
      rw [ex, hh]
      refine j_dget 99 rfl rfl ws_dig dX4_digest_96 ?_
      refine j_astore_n 100 rfl st_7_3 (by decide) rfl dX4_digest_99 ?_
      refine j_aload_n 101 rfl rfl dX4_digest_100 ?_
      refine j_dlen 102 rfl dX4_digest_101 ?_
      refine j_istore 104 rfl st_7_4 (by decide) rfl dX4_digest_102 ?_
      refine j_iconst 105 rfl dX4_digest_104 ?_
      refine j_istore 107 rfl st_7_5 (by decide) rfl dX4_digest_105 ?_
      exact s_digest1 (h0 := dgBx H (dgN (H 6) (31 * dgN (fCount H) 17 8 + w32 (H 1 2)) 9) (H 1 3).toNat) rfl 5 0 none K rfl cq0
    · exfalso; omega
  | d + 1, x3, K, hd, cq0 => by
    have hn := parsed_n h.1.1 h.1.2.1
    have e1 : K 1 3 = H 1 3 := by rw [cq0.1 1 (by decide) (by decide)]
    refine j_iload_n 73 rfl rfl dX4_digest_72 ?_
    refine j_aload_n 74 rfl rfl dX4_digest_73 ?_
    refine j_getr 77 rfl 0 fl_X4_12 dX4_digest_74 (by decide) ( rfl) ( rfl) ?_
    refine g_geti 80 rfl 3 3 rfl fl_X4_173 dX4_digest_77 (by decide) ( rfl) ( rfl) ?_
    rw [e1]
    refine j_icmp_ge 96 83 (by decide) rfl dX4_digest_80 (by intro hR; first | omega | exact hR _ _ | exact jb_r _ | exact hR0 _ _ | assumption) (by intro hR; first | omega | exact hR _ _ | exact jb_r _ | exact hR0 _ _ | assumption) (fun h1 => ?_) (fun h1 => ?_)
    · exfalso; omega
    · refine j_aload_n 84 rfl rfl dX4_digest_83 ?_
      refine j_lload_n 85 rfl rfl dX4_digest_84 ?_
      refine j_iload_n 86 rfl rfl dX4_digest_85 ?_
      refine jV2l 89 rfl dX4_digest_86 lk_X4_264 rfl rfl (by decide) ( rfl) ( rfl) (s_digestBox (by omega) cq0.2.2) (fun v0 Hy0 ⟨cp0, hv0⟩ => ?_)
      have cq1 : CQ H Hy0 := cq0.trans cp0
      rw [cq0.same.dgb] at hv0
      rw [hv0]
      refine j_lstore_n 90 rfl su_7_1 (by decide) (Nat.le_of_ble_eq_true rfl) rfl dX4_digest_89 ?_
      refine j_iinc 93 rfl rfl st_7_3 (by decide) rfl dX4_digest_90 ?_
      refine j_goto 72 (by decide) dX4_digest_93 ?_
      exact s_digest0 hh h d (x3 + 1) Hy0 (by omega) cq1
set_option maxHeartbeats 1000000 in
theorem s_digest (h : CI H) : jOk E mX4_digest [jRF E 0] H (jQl fun r H' => CQ H H' ∧ r = dg3 H) := by
  have hn := parsed_n h.1.1 h.1.2.1
  refine jOk.rng (fun hR0 => ?_)
  refine jOk.ofe rfl (Nat.le_of_ble_eq_true rfl) (en_a_7 (E := E)) ?_
  refine j_ldc2 3 rfl kc_X4_253 dX4_digest_0 ?_
  refine j_lstore_n 4 rfl su_7_1 (by decide) (Nat.le_of_ble_eq_true rfl) rfl dX4_digest_3 ?_
  refine j_iconst 5 rfl dX4_digest_4 ?_
  refine j_istore_n 6 rfl st_7_3 (by decide) rfl dX4_digest_5 ?_
  have l2 : ∀ (d : Nat) (x3 : Nat) (K : jH), x3 + d = 9 → CQ H K → jWP E mX4_digest (jQl fun r H' => CQ H H' ∧ r = dg3 H) 45 [some (jRF E 0), some (.long (jL (dgN (H 6) (31 * dgN (fCount H) 17 8 + w32 (H 1 2)) x3))), none, some (.int (jI x3)), none, none, none] [] K := by
    intro d
    induction d with
    | zero =>
      intro x3 K hd cq0
      refine j_iload_n 46 rfl rfl dX4_digest_45 ?_
      refine j_bipush 48 rfl rfl dX4_digest_46 ?_
      refine j_icmp_ge 70 51 (by decide) rfl dX4_digest_48 (by intro hR; first | omega | exact hR _ _ | exact jb_r _ | exact hR0 _ _ | assumption) (by intro hR; first | omega | exact hR _ _ | exact jb_r _ | exact hR0 _ _ | assumption) (fun h1 => ?_) (fun h1 => ?_)
      · rw [show x3 = 9 by omega]
        refine j_iconst 71 rfl dX4_digest_70 ?_
        refine j_istore_n 72 rfl st_7_3 (by decide) rfl dX4_digest_71 ?_
        exact s_digest0 (h0 := dgN (H 6) (31 * dgN (fCount H) 17 8 + w32 (H 1 2)) 9) rfl h (H 1 3).toNat 0 K (by omega) cq0
      · exfalso; omega
    | succ d ih =>
      intro x3 K hd cq0
      refine j_iload_n 46 rfl rfl dX4_digest_45 ?_
      refine j_bipush 48 rfl rfl dX4_digest_46 ?_
      refine j_icmp_ge 70 51 (by decide) rfl dX4_digest_48 (by intro hR; first | omega | exact hR _ _ | exact jb_r _ | exact hR0 _ _ | assumption) (by intro hR; first | omega | exact hR _ _ | exact jb_r _ | exact hR0 _ _ | assumption) (fun h1 => ?_) (fun h1 => ?_)
      · exfalso; omega
      · refine j_ldc2 54 rfl kc_X4_255 dX4_digest_51 ?_
        refine j_lload_n 55 rfl rfl dX4_digest_54 ?_
        refine j_lmul 56 rfl dX4_digest_55 ?_
        refine j_aload_n 57 rfl rfl dX4_digest_56 ?_
        refine j_iload_n 58 rfl rfl dX4_digest_57 ?_
        refine jV1i 61 rfl dX4_digest_58 lk_X4_261 rfl rfl (by decide) ( rfl) ( rfl) (s_place (by omega)) (fun r1 H1 ⟨eh_, hr1⟩ => ?_)
        obtain rfl := eh_.symm
        rw [cq0.1 6 (by decide) (by decide)] at hr1
        have er1 : r1 = H 6 x3 := by omega
        rw [er1]
        refine k_i2l 62 rfl dX4_digest_61 ?_
        refine j_ladd 63 rfl dX4_digest_62 ?_
        refine j_lstore_n 64 rfl su_7_1 (by decide) (Nat.le_of_ble_eq_true rfl) rfl dX4_digest_63 ?_
        refine j_iinc 67 rfl rfl st_7_3 (by decide) rfl dX4_digest_64 ?_
        refine j_goto 45 (by decide) dX4_digest_67 ?_
        exact ih (x3 + 1) K (by omega) cq0
  have l1 : ∀ (d : Nat) (x3 : Nat) (K : jH), x3 + d = 8 → CQ H K → jWP E mX4_digest (jQl fun r H' => CQ H H' ∧ r = dg3 H) 6 [some (jRF E 0), some (.long (jL (dgN (fCount H) 17 x3))), none, some (.int (jI x3)), none, none, none] [] K := by
    intro d
    induction d with
    | zero =>
      intro x3 K hd cq0
      refine j_iload_n 7 rfl rfl dX4_digest_6 ?_
      refine j_bipush 9 rfl rfl dX4_digest_7 ?_
      refine j_icmp_gt 31 12 (by decide) rfl dX4_digest_9 (by intro hR; first | omega | exact hR _ _ | exact jb_r _ | exact hR0 _ _ | assumption) (by intro hR; first | omega | exact hR _ _ | exact jb_r _ | exact hR0 _ _ | assumption) (fun h1 => ?_) (fun h1 => ?_)
      · rw [show x3 = 8 by omega]
        refine j_ldc2 34 rfl kc_X4_255 dX4_digest_31 ?_
        refine j_lload_n 35 rfl rfl dX4_digest_34 ?_
        refine j_lmul 36 rfl dX4_digest_35 ?_
        refine j_aload_n 37 rfl rfl dX4_digest_36 ?_
        refine jV0i 40 rfl dX4_digest_37 lk_X4_259 rfl rfl (by decide) ( rfl) ( rfl) (s_fault) (fun r1 H1 hr1 => ?_)
        obtain ⟨er1, eh1⟩ := hr1
        rw [cq0.1 1 (by decide) (by decide)] at er1
        rw [er1, eh1]
        refine k_i2l 41 rfl dX4_digest_40 ?_
        refine j_ladd 42 rfl dX4_digest_41 ?_
        refine j_lstore_n 43 rfl su_7_1 (by decide) (Nat.le_of_ble_eq_true rfl) rfl dX4_digest_42 ?_
        refine j_iconst 44 rfl dX4_digest_43 ?_
        refine j_istore_n 45 rfl st_7_3 (by decide) rfl dX4_digest_44 ?_
        exact l2 9 0 K rfl cq0
      · exfalso; omega
    | succ d ih =>
      intro x3 K hd cq0
      refine j_iload_n 7 rfl rfl dX4_digest_6 ?_
      refine j_bipush 9 rfl rfl dX4_digest_7 ?_
      refine j_icmp_gt 31 12 (by decide) rfl dX4_digest_9 (by intro hR; first | omega | exact hR _ _ | exact jb_r _ | exact hR0 _ _ | assumption) (by intro hR; first | omega | exact hR _ _ | exact jb_r _ | exact hR0 _ _ | assumption) (fun h1 => ?_) (fun h1 => ?_)
      · exfalso; omega
      · refine j_ldc2 15 rfl kc_X4_255 dX4_digest_12 ?_
        refine j_lload_n 16 rfl rfl dX4_digest_15 ?_
        refine j_lmul 17 rfl dX4_digest_16 ?_
        refine j_aload_n 18 rfl rfl dX4_digest_17 ?_
        refine j_iload_n 19 rfl rfl dX4_digest_18 ?_
        refine jV1i 22 rfl dX4_digest_19 lk_X4_257 rfl rfl (by decide) ( rfl) ( rfl) (s_count (by omega) cq0.2.2) (fun r1 H1 ⟨cp0, hr1⟩ => ?_)
        rw [cq0.same.count] at hr1
        rw [hr1]
        refine k_i2l 23 rfl dX4_digest_22 ?_
        refine j_ladd 24 rfl dX4_digest_23 ?_
        refine j_lstore_n 25 rfl su_7_1 (by decide) (Nat.le_of_ble_eq_true rfl) rfl dX4_digest_24 ?_
        refine j_iinc 28 rfl rfl st_7_3 (by decide) rfl dX4_digest_25 ?_
        refine j_goto 6 (by decide) dX4_digest_28 ?_
        exact ih (x3 + 1) H1 (by omega) (cq0.trans cp0)
  exact l1 8 0 H rfl (CQ.refl h)
end S31
