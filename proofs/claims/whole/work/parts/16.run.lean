/-! ===== the class's course: run, load ===== -/
section S16
variable {E : jE} {H : jH}
-- X1_run
set_option maxHeartbeats 4000000 in
theorem s_run_22 {l : Int} (hl : -1 ≤ l ∧ l < 60) (ok : cOk (cK H 22)) : jOk E mX1_run [jRF E 22, .int (jI l)] H (jQv fun H' => cFr 22 H H' ∧ (∀ t : Int, 0 ≤ t → t ≤ l → H' 31 t = (pS (cK H 22) (t.toNat + 1)).2.1 ∧ H' 32 t = (pS (cK H 22) (t.toNat + 1)).1)) := by
  refine jOk.rng (fun hR0 => ?_)
  obtain ⟨K, hK⟩ : ∃ K, K = cK H 22 := ⟨_, rfl⟩
  have k0 : H 22 0 = K 0 0 := by rw [hK]; rfl
  have k2 : ∀ b, H 24 b = K 2 b := fun b => by rw [hK]; rfl
  have k3 : ∀ b, H 25 b = K 3 b := fun b => by rw [hK]; rfl
  have k4 : ∀ b, H 26 b = K 4 b := fun b => by rw [hK]; rfl
  rw [← hK] at ok ⊢
  obtain ⟨hn, hlid, hbx, hinj, hmask⟩ := id ok
  obtain ⟨R0, hR0'⟩ : ∃ R0 : Int → jH, R0 = fun i => jMp (jMp (jMp (jMp H 33 i (fun b => rch (K 4 b) (K 2 b))) 34 i (K 3)) 35 i (fun _ => 0)) 36 i (fun _ => 0) := ⟨_, rfl⟩
  have hR0s : ∀ i, 0 ≤ i → jU (jU (jU (jU (R0 i) 33 i (rch (K 4 i) (K 2 i))) 34 i (K 3 i)) 35 i 0) 36 i 0 = R0 (i + 1) := by
    intro i hi
    rw [hR0']
    funext a b
    simp only [jMp, jU]
    by_cases h1 : a = 36
    · subst h1
      by_cases h2 : b = i
      · subst h2; simp [hi]; omega
      · simp [h2]
        by_cases h3 : 0 ≤ b ∧ b < i
        · rw [if_pos h3, if_pos ⟨h3.1, by omega⟩]
        · rw [if_neg h3, if_neg (by omega)]
    · by_cases h1 : a = 35
      · subst h1
        by_cases h2 : b = i
        · subst h2; simp [hi]; omega
        · simp [h2]
          by_cases h3 : 0 ≤ b ∧ b < i
          · rw [if_pos h3, if_pos ⟨h3.1, by omega⟩]
          · rw [if_neg h3, if_neg (by omega)]
      · by_cases h1 : a = 34
        · subst h1
          by_cases h2 : b = i
          · subst h2; simp [hi]; omega
          · simp [h2]
            by_cases h3 : 0 ≤ b ∧ b < i
            · rw [if_pos h3, if_pos ⟨h3.1, by omega⟩]
            · rw [if_neg h3, if_neg (by omega)]
        · by_cases h1 : a = 33
          · subst h1
            by_cases h2 : b = i
            · subst h2; simp [hi]; omega
            · simp [h2]
              by_cases h3 : 0 ≤ b ∧ b < i
              · rw [if_pos h3, if_pos ⟨h3.1, by omega⟩]
              · rw [if_neg h3, if_neg (by omega)]
          · simp [*]
  have hR00 : R0 0 = H := by rw [hR0']; simp only [jMp_0]
  have hRo : ∀ i k, k ≠ 33 → k ≠ 34 → k ≠ 35 → k ≠ 36 → R0 i k = H k := fun i k a1 a2 a3 a4 => by rw [hR0']; simp only [jMp_o a1, jMp_o a2, jMp_o a3, jMp_o a4]
  refine jOk.rng (fun hR0 => ?_)
  refine jOk.ofe rfl (Nat.le_of_ble_eq_true rfl) (en_ai_3 (E := E)) ?_
  refine j_iconst 1 rfl dX1_run_0 ?_
  refine j_istore_n 2 rfl st_3_2 (by decide) rfl dX1_run_1 ?_
  have loop := jUp 0 (K 0 0) (fun i => jWP E mX1_run (jQv fun H' => cFr 22 H H' ∧ (∀ t : Int, 0 ≤ t → t ≤ l → H' 31 t = (pS K (t.toNat + 1)).2.1 ∧ H' 32 t = (pS K (t.toNat + 1)).1)) 2 [some (jRF E 22), some (.int (jI l)), some (.int (jI i))] [] (R0 i)) ?_ ?_ 0 (by omega) (by omega)
  · rw [hR00] at loop
    exact loop
  · refine j_iload_n 3 rfl rfl dX1_run_2 ?_
    refine j_aload_n 4 rfl rfl dX1_run_3 ?_
    refine g_geti 7 rfl 0 0 rfl fl_X1_9 dX1_run_4 (by decide) ( rfl) ( rfl) ?_
    rw [hRo _ 22 (by decide) (by decide) (by decide) (by decide), k0]
    refine j_icmp_ge 63 10 (by decide) rfl dX1_run_7 (by intro hR; first | omega | exact hR _ _ | exact jb_r _ | exact hR0 _ _ | assumption) (by intro hR; first | omega | exact hR _ _ | exact jb_r _ | exact hR0 _ _ | assumption) (fun h => ?_) (fun h => ?_)
    · refine j_aload_n 64 rfl rfl dX1_run_63 ?_
      refine j_iconst 65 rfl dX1_run_64 ?_
      refine g_puti 68 rfl 13 13 rfl fl_X1_54 ft_1_13 dX1_run_65 (by decide) ( rfl) ( rfl) (by intro hR; first | omega | exact hR _ _ | exact jb_r _ | exact hR0 _ _ | assumption) ?_
      refine j_aload_n 69 rfl rfl dX1_run_68 ?_
      refine j_iconst 70 rfl dX1_run_69 ?_
      refine g_puti 73 rfl 15 15 rfl fl_X1_60 ft_1_15 dX1_run_70 (by decide) ( rfl) ( rfl) (by intro hR; first | omega | exact hR _ _ | exact jb_r _ | exact hR0 _ _ | assumption) ?_
      refine j_iconst 74 rfl dX1_run_73 ?_
      refine j_istore_n 75 rfl st_3_2 (by decide) rfl dX1_run_74 ?_
      obtain ⟨H1, hH1⟩ : ∃ H1, H1 = jU (jU (R0 (K 0 0)) 22 13 0) 22 15 0 := ⟨_, rfl⟩
      rw [← hH1]
      have fr1 : cFr 22 H H1 := by
        refine ⟨fun k h1 h2 => ?_, fun j h1 h2 h3 => ?_⟩
        · rw [hH1, jU_o h1, jU_o h1]
          exact hRo _ k (by omega) (by omega) (by omega) (by omega)
        · rw [hH1, jU_i h3, jU_i h1, hRo _ 22 (by decide) (by decide) (by decide) (by decide)]
      have hK1 : cK H1 22 = K := by rw [fr1.K, ← hK]
      have rel0 : cRel 22 H1 0 := by
        unfold cRel
        rw [hK1]
        refine ⟨?_, ?_, fun b h0 h1 => ⟨?_, ?_, fun _ _ _ => ?_, fun _ _ _ => ?_⟩⟩
        · rw [hH1, jU_i (by omega), jU_s]; rfl
        · rw [hH1, jU_s]
          have e : nz (bt (pS K 0).2.1) (K 4) (K 0 0) = nz (fun _ => false) (K 4) (K 0 0) := nz_cong (fun b _ _ => bt_0 b)
          rw [e]
          unfold nz
          induction (K 0 0).toNat with
          | zero => rfl
          | succ m ih => rw [nzN]; exact ih
        · rw [hH1, jU_k (by decide), jU_k (by decide), hR0']
          simp only []
          rw [jMp_k (by decide), jMp_k (by decide), jMp_i h0 h1]
          rfl
        · rw [hH1, jU_k (by decide), jU_k (by decide), hR0']
          simp only []
          rw [jMp_k (by decide), jMp_k (by decide), jMp_k (by decide), jMp_i h0 h1]
        · rw [hH1, jU_k (by decide), jU_k (by decide), hR0']
          simp only []
          rw [jMp_k (by decide), jMp_i h0 h1]
          rfl
        · rw [hH1, jU_k (by decide), jU_k (by decide), hR0']
          simp only []
          rw [jMp_i h0 h1]
          rfl
      have loop2 := jUp 0 (l + 1) (fun i => ∀ Hi, (cFr 22 H Hi ∧ cRel 22 Hi i.toNat ∧ (∀ t : Int, 0 ≤ t → t < i → Hi 31 t = (pS K (t.toNat + 1)).2.1 ∧ Hi 32 t = (pS K (t.toNat + 1)).1)) → jWP E mX1_run (jQv fun H' => cFr 22 H H' ∧ (∀ t : Int, 0 ≤ t → t ≤ l → H' 31 t = (pS K (t.toNat + 1)).2.1 ∧ H' 32 t = (pS K (t.toNat + 1)).1)) 75 [some (jRF E 22), some (.int (jI l)), some (.int (jI i))] [] Hi) ?_ ?_ 0 (by omega) (by omega)
      · exact loop2 H1 ⟨fr1, rel0, fun t h0 h1 => by omega⟩
      · rintro Hi ⟨f1, f2, f3⟩
        refine j_iload_n 76 rfl rfl dX1_run_75 ?_
        refine j_iload_n 77 rfl rfl dX1_run_76 ?_
        refine j_icmp_gt 97 80 (by decide) rfl dX1_run_77 (by intro hR; first | omega | exact hR _ _ | exact jb_r _ | exact hR0 _ _ | assumption) (by intro hR; first | omega | exact hR _ _ | exact jb_r _ | exact hR0 _ _ | assumption) (fun h => ?_) (fun h => ?_)
        · refine j_vretv dX1_run_97 rfl ?_
          exact ⟨f1, fun t h0 h1 => f3 t h0 (by omega)⟩
        · exfalso; omega
      · rintro i h0 h1 ih Hi ⟨f1, f2, f3⟩
        have hKi : cK Hi 22 = K := by rw [f1.K, ← hK]
        refine j_iload_n 76 rfl rfl dX1_run_75 ?_
        refine j_iload_n 77 rfl rfl dX1_run_76 ?_
        refine j_icmp_gt 97 80 (by decide) rfl dX1_run_77 (by intro hR; first | omega | exact hR _ _ | exact jb_r _ | exact hR0 _ _ | assumption) (by intro hR; first | omega | exact hR _ _ | exact jb_r _ | exact hR0 _ _ | assumption) (fun h => ?_) (fun h => ?_)
        · exfalso; omega
        · refine j_iload_n 81 rfl rfl dX1_run_80 ?_
          refine j_bipush 83 rfl rfl dX1_run_81 ?_
          refine j_icmp_ge 97 86 (by decide) rfl dX1_run_83 (by intro hR; first | omega | exact hR _ _ | exact jb_r _ | exact hR0 _ _ | assumption) (by intro hR; first | omega | exact hR _ _ | exact jb_r _ | exact hR0 _ _ | assumption) (fun h => ?_) (fun h => ?_)
          · exfalso; omega
          · refine j_aload_n 87 rfl rfl dX1_run_86 ?_
            refine j_iload_n 88 rfl rfl dX1_run_87 ?_
            refine jV1v 91 rfl dX1_run_88 lk_X1_102 rfl rfl (by decide) ( rfl) ( rfl) (s_go_22 (H := Hi) (by omega) (by rw [hKi]; exact ok) f2) (fun H2 ⟨q1, q2, q3, q4⟩ => ?_)
            refine j_iinc 94 rfl rfl st_3_2 (by decide) rfl dX1_run_91 ?_
            refine j_goto 75 (by decide) dX1_run_94 ?_
            rw [hKi] at q3 q4
            refine ih H2 ⟨f1.trans q1, ?_, fun t t0 t1 => ?_⟩
            · rw [show (i + 1).toNat = i.toNat + 1 by omega]
              exact q2
            · rw [q3, q4]
              by_cases ht : t = i
              · subst ht
                rw [if_pos rfl, if_pos rfl]
                exact ⟨rfl, rfl⟩
              · rw [if_neg ht, if_neg ht]
                exact f3 t t0 (by omega)
    · exfalso; omega
  · intro i h0 h1 ih
    have hbi := hbx i h0 h1
    refine j_iload_n 3 rfl rfl dX1_run_2 ?_
    refine j_aload_n 4 rfl rfl dX1_run_3 ?_
    refine g_geti 7 rfl 0 0 rfl fl_X1_9 dX1_run_4 (by decide) ( rfl) ( rfl) ?_
    rw [hRo _ 22 (by decide) (by decide) (by decide) (by decide), k0]
    refine j_icmp_ge 63 10 (by decide) rfl dX1_run_7 (by intro hR; first | omega | exact hR _ _ | exact jb_r _ | exact hR0 _ _ | assumption) (by intro hR; first | omega | exact hR _ _ | exact jb_r _ | exact hR0 _ _ | assumption) (fun h => ?_) (fun h => ?_)
    · exfalso; omega
    · refine j_aload_n 11 rfl rfl dX1_run_10 ?_
      refine j_getr 14 rfl 9 fl_X1_42 dX1_run_11 (by decide) ( rfl) ( rfl) ?_
      refine j_iload_n 15 rfl rfl dX1_run_14 ?_
      refine j_aload_n 16 rfl rfl dX1_run_15 ?_
      refine j_getr 19 rfl 4 fl_X1_25 dX1_run_16 (by decide) ( rfl) ( rfl) ?_
      refine j_iload_n 20 rfl rfl dX1_run_19 ?_
      refine j_iald 21 rfl dX1_run_20 (by decide) rfl (by decide) rfl (by omega) ?_
      rw [hRo _ 26 (by decide) (by decide) (by decide) (by decide), k4]
      refine j_aload_n 22 rfl rfl dX1_run_21 ?_
      refine j_getr 25 rfl 2 fl_X1_19 dX1_run_22 (by decide) ( rfl) ( rfl) ?_
      refine j_iload_n 26 rfl rfl dX1_run_25 ?_
      refine j_iald 27 rfl dX1_run_26 (by decide) rfl (by decide) rfl (by omega) ?_
      rw [hRo _ 24 (by decide) (by decide) (by decide) (by decide), k2]
      refine jS2i 30 rfl dX1_run_27 lk_X1_98 rfl rfl (s_placesAround) (fun r H1 ⟨e, hr⟩ => ?_)
      subst e
      subst hr
      refine j_iast 31 rfl dX1_run_30 (by decide) rfl (by decide) rfl (by omega) (by intro hR; exact jb_r _) ?_
      refine j_aload_n 32 rfl rfl dX1_run_31 ?_
      refine j_getr 35 rfl 10 fl_X1_45 dX1_run_32 (by decide) ( rfl) ( rfl) ?_
      refine j_iload_n 36 rfl rfl dX1_run_35 ?_
      refine j_aload_n 37 rfl rfl dX1_run_36 ?_
      refine j_getr 40 rfl 3 fl_X1_22 dX1_run_37 (by decide) ( rfl) ( rfl) ?_
      refine j_iload_n 41 rfl rfl dX1_run_40 ?_
      refine j_iald 42 rfl dX1_run_41 (by decide) rfl (by decide) rfl (by omega) ?_
      rw [jU_k (by decide), hRo _ 25 (by decide) (by decide) (by decide) (by decide), k3]
      refine j_iast 43 rfl dX1_run_42 (by decide) rfl (by decide) rfl (by omega) (by intro hR; first | omega | exact hR _ _ | exact jb_r _ | exact hR0 _ _ | assumption) ?_
      refine j_aload_n 44 rfl rfl dX1_run_43 ?_
      refine j_getr 47 rfl 11 fl_X1_48 dX1_run_44 (by decide) ( rfl) ( rfl) ?_
      refine j_iload_n 48 rfl rfl dX1_run_47 ?_
      refine j_iconst 49 rfl dX1_run_48 ?_
      refine j_iast 50 rfl dX1_run_49 (by decide) rfl (by decide) rfl (by omega) (by intro hR; first | omega | exact hR _ _ | exact jb_r _ | exact hR0 _ _ | assumption) ?_
      refine j_aload_n 51 rfl rfl dX1_run_50 ?_
      refine j_getr 54 rfl 12 fl_X1_51 dX1_run_51 (by decide) ( rfl) ( rfl) ?_
      refine j_iload_n 55 rfl rfl dX1_run_54 ?_
      refine j_iconst 56 rfl dX1_run_55 ?_
      refine j_iast 57 rfl dX1_run_56 (by decide) rfl (by decide) rfl (by omega) (by intro hR; first | omega | exact hR _ _ | exact jb_r _ | exact hR0 _ _ | assumption) ?_
      rw [hR0s i h0]
      refine j_iinc 60 rfl rfl st_3_2 (by decide) rfl dX1_run_57 ?_
      refine j_goto 2 (by decide) dX1_run_60 ?_
      exact ih
-- X1_run
set_option maxHeartbeats 4000000 in
theorem s_run_37 {l : Int} (hl : -1 ≤ l ∧ l < 60) (ok : cOk (cK H 37)) : jOk E mX1_run [jRF E 37, .int (jI l)] H (jQv fun H' => cFr 37 H H' ∧ (∀ t : Int, 0 ≤ t → t ≤ l → H' 46 t = (pS (cK H 37) (t.toNat + 1)).2.1 ∧ H' 47 t = (pS (cK H 37) (t.toNat + 1)).1)) := by
  refine jOk.rng (fun hR0 => ?_)
  obtain ⟨K, hK⟩ : ∃ K, K = cK H 37 := ⟨_, rfl⟩
  have k0 : H 37 0 = K 0 0 := by rw [hK]; rfl
  have k2 : ∀ b, H 39 b = K 2 b := fun b => by rw [hK]; rfl
  have k3 : ∀ b, H 40 b = K 3 b := fun b => by rw [hK]; rfl
  have k4 : ∀ b, H 41 b = K 4 b := fun b => by rw [hK]; rfl
  rw [← hK] at ok ⊢
  obtain ⟨hn, hlid, hbx, hinj, hmask⟩ := id ok
  obtain ⟨R0, hR0'⟩ : ∃ R0 : Int → jH, R0 = fun i => jMp (jMp (jMp (jMp H 48 i (fun b => rch (K 4 b) (K 2 b))) 49 i (K 3)) 50 i (fun _ => 0)) 51 i (fun _ => 0) := ⟨_, rfl⟩
  have hR0s : ∀ i, 0 ≤ i → jU (jU (jU (jU (R0 i) 48 i (rch (K 4 i) (K 2 i))) 49 i (K 3 i)) 50 i 0) 51 i 0 = R0 (i + 1) := by
    intro i hi
    rw [hR0']
    funext a b
    simp only [jMp, jU]
    by_cases h1 : a = 51
    · subst h1
      by_cases h2 : b = i
      · subst h2; simp [hi]; omega
      · simp [h2]
        by_cases h3 : 0 ≤ b ∧ b < i
        · rw [if_pos h3, if_pos ⟨h3.1, by omega⟩]
        · rw [if_neg h3, if_neg (by omega)]
    · by_cases h1 : a = 50
      · subst h1
        by_cases h2 : b = i
        · subst h2; simp [hi]; omega
        · simp [h2]
          by_cases h3 : 0 ≤ b ∧ b < i
          · rw [if_pos h3, if_pos ⟨h3.1, by omega⟩]
          · rw [if_neg h3, if_neg (by omega)]
      · by_cases h1 : a = 49
        · subst h1
          by_cases h2 : b = i
          · subst h2; simp [hi]; omega
          · simp [h2]
            by_cases h3 : 0 ≤ b ∧ b < i
            · rw [if_pos h3, if_pos ⟨h3.1, by omega⟩]
            · rw [if_neg h3, if_neg (by omega)]
        · by_cases h1 : a = 48
          · subst h1
            by_cases h2 : b = i
            · subst h2; simp [hi]; omega
            · simp [h2]
              by_cases h3 : 0 ≤ b ∧ b < i
              · rw [if_pos h3, if_pos ⟨h3.1, by omega⟩]
              · rw [if_neg h3, if_neg (by omega)]
          · simp [*]
  have hR00 : R0 0 = H := by rw [hR0']; simp only [jMp_0]
  have hRo : ∀ i k, k ≠ 48 → k ≠ 49 → k ≠ 50 → k ≠ 51 → R0 i k = H k := fun i k a1 a2 a3 a4 => by rw [hR0']; simp only [jMp_o a1, jMp_o a2, jMp_o a3, jMp_o a4]
  refine jOk.rng (fun hR0 => ?_)
  refine jOk.ofe rfl (Nat.le_of_ble_eq_true rfl) (en_ai_3 (E := E)) ?_
  refine j_iconst 1 rfl dX1_run_0 ?_
  refine j_istore_n 2 rfl st_3_2 (by decide) rfl dX1_run_1 ?_
  have loop := jUp 0 (K 0 0) (fun i => jWP E mX1_run (jQv fun H' => cFr 37 H H' ∧ (∀ t : Int, 0 ≤ t → t ≤ l → H' 46 t = (pS K (t.toNat + 1)).2.1 ∧ H' 47 t = (pS K (t.toNat + 1)).1)) 2 [some (jRF E 37), some (.int (jI l)), some (.int (jI i))] [] (R0 i)) ?_ ?_ 0 (by omega) (by omega)
  · rw [hR00] at loop
    exact loop
  · refine j_iload_n 3 rfl rfl dX1_run_2 ?_
    refine j_aload_n 4 rfl rfl dX1_run_3 ?_
    refine g_geti 7 rfl 0 0 rfl fl_X1_9 dX1_run_4 (by decide) ( rfl) ( rfl) ?_
    rw [hRo _ 37 (by decide) (by decide) (by decide) (by decide), k0]
    refine j_icmp_ge 63 10 (by decide) rfl dX1_run_7 (by intro hR; first | omega | exact hR _ _ | exact jb_r _ | exact hR0 _ _ | assumption) (by intro hR; first | omega | exact hR _ _ | exact jb_r _ | exact hR0 _ _ | assumption) (fun h => ?_) (fun h => ?_)
    · refine j_aload_n 64 rfl rfl dX1_run_63 ?_
      refine j_iconst 65 rfl dX1_run_64 ?_
      refine g_puti 68 rfl 13 13 rfl fl_X1_54 ft_1_13 dX1_run_65 (by decide) ( rfl) ( rfl) (by intro hR; first | omega | exact hR _ _ | exact jb_r _ | exact hR0 _ _ | assumption) ?_
      refine j_aload_n 69 rfl rfl dX1_run_68 ?_
      refine j_iconst 70 rfl dX1_run_69 ?_
      refine g_puti 73 rfl 15 15 rfl fl_X1_60 ft_1_15 dX1_run_70 (by decide) ( rfl) ( rfl) (by intro hR; first | omega | exact hR _ _ | exact jb_r _ | exact hR0 _ _ | assumption) ?_
      refine j_iconst 74 rfl dX1_run_73 ?_
      refine j_istore_n 75 rfl st_3_2 (by decide) rfl dX1_run_74 ?_
      obtain ⟨H1, hH1⟩ : ∃ H1, H1 = jU (jU (R0 (K 0 0)) 37 13 0) 37 15 0 := ⟨_, rfl⟩
      rw [← hH1]
      have fr1 : cFr 37 H H1 := by
        refine ⟨fun k h1 h2 => ?_, fun j h1 h2 h3 => ?_⟩
        · rw [hH1, jU_o h1, jU_o h1]
          exact hRo _ k (by omega) (by omega) (by omega) (by omega)
        · rw [hH1, jU_i h3, jU_i h1, hRo _ 37 (by decide) (by decide) (by decide) (by decide)]
      have hK1 : cK H1 37 = K := by rw [fr1.K, ← hK]
      have rel0 : cRel 37 H1 0 := by
        unfold cRel
        rw [hK1]
        refine ⟨?_, ?_, fun b h0 h1 => ⟨?_, ?_, fun _ _ _ => ?_, fun _ _ _ => ?_⟩⟩
        · rw [hH1, jU_i (by omega), jU_s]; rfl
        · rw [hH1, jU_s]
          have e : nz (bt (pS K 0).2.1) (K 4) (K 0 0) = nz (fun _ => false) (K 4) (K 0 0) := nz_cong (fun b _ _ => bt_0 b)
          rw [e]
          unfold nz
          induction (K 0 0).toNat with
          | zero => rfl
          | succ m ih => rw [nzN]; exact ih
        · rw [hH1, jU_k (by decide), jU_k (by decide), hR0']
          simp only []
          rw [jMp_k (by decide), jMp_k (by decide), jMp_i h0 h1]
          rfl
        · rw [hH1, jU_k (by decide), jU_k (by decide), hR0']
          simp only []
          rw [jMp_k (by decide), jMp_k (by decide), jMp_k (by decide), jMp_i h0 h1]
        · rw [hH1, jU_k (by decide), jU_k (by decide), hR0']
          simp only []
          rw [jMp_k (by decide), jMp_i h0 h1]
          rfl
        · rw [hH1, jU_k (by decide), jU_k (by decide), hR0']
          simp only []
          rw [jMp_i h0 h1]
          rfl
      have loop2 := jUp 0 (l + 1) (fun i => ∀ Hi, (cFr 37 H Hi ∧ cRel 37 Hi i.toNat ∧ (∀ t : Int, 0 ≤ t → t < i → Hi 46 t = (pS K (t.toNat + 1)).2.1 ∧ Hi 47 t = (pS K (t.toNat + 1)).1)) → jWP E mX1_run (jQv fun H' => cFr 37 H H' ∧ (∀ t : Int, 0 ≤ t → t ≤ l → H' 46 t = (pS K (t.toNat + 1)).2.1 ∧ H' 47 t = (pS K (t.toNat + 1)).1)) 75 [some (jRF E 37), some (.int (jI l)), some (.int (jI i))] [] Hi) ?_ ?_ 0 (by omega) (by omega)
      · exact loop2 H1 ⟨fr1, rel0, fun t h0 h1 => by omega⟩
      · rintro Hi ⟨f1, f2, f3⟩
        refine j_iload_n 76 rfl rfl dX1_run_75 ?_
        refine j_iload_n 77 rfl rfl dX1_run_76 ?_
        refine j_icmp_gt 97 80 (by decide) rfl dX1_run_77 (by intro hR; first | omega | exact hR _ _ | exact jb_r _ | exact hR0 _ _ | assumption) (by intro hR; first | omega | exact hR _ _ | exact jb_r _ | exact hR0 _ _ | assumption) (fun h => ?_) (fun h => ?_)
        · refine j_vretv dX1_run_97 rfl ?_
          exact ⟨f1, fun t h0 h1 => f3 t h0 (by omega)⟩
        · exfalso; omega
      · rintro i h0 h1 ih Hi ⟨f1, f2, f3⟩
        have hKi : cK Hi 37 = K := by rw [f1.K, ← hK]
        refine j_iload_n 76 rfl rfl dX1_run_75 ?_
        refine j_iload_n 77 rfl rfl dX1_run_76 ?_
        refine j_icmp_gt 97 80 (by decide) rfl dX1_run_77 (by intro hR; first | omega | exact hR _ _ | exact jb_r _ | exact hR0 _ _ | assumption) (by intro hR; first | omega | exact hR _ _ | exact jb_r _ | exact hR0 _ _ | assumption) (fun h => ?_) (fun h => ?_)
        · exfalso; omega
        · refine j_iload_n 81 rfl rfl dX1_run_80 ?_
          refine j_bipush 83 rfl rfl dX1_run_81 ?_
          refine j_icmp_ge 97 86 (by decide) rfl dX1_run_83 (by intro hR; first | omega | exact hR _ _ | exact jb_r _ | exact hR0 _ _ | assumption) (by intro hR; first | omega | exact hR _ _ | exact jb_r _ | exact hR0 _ _ | assumption) (fun h => ?_) (fun h => ?_)
          · exfalso; omega
          · refine j_aload_n 87 rfl rfl dX1_run_86 ?_
            refine j_iload_n 88 rfl rfl dX1_run_87 ?_
            refine jV1v 91 rfl dX1_run_88 lk_X1_102 rfl rfl (by decide) ( rfl) ( rfl) (s_go_37 (H := Hi) (by omega) (by rw [hKi]; exact ok) f2) (fun H2 ⟨q1, q2, q3, q4⟩ => ?_)
            refine j_iinc 94 rfl rfl st_3_2 (by decide) rfl dX1_run_91 ?_
            refine j_goto 75 (by decide) dX1_run_94 ?_
            rw [hKi] at q3 q4
            refine ih H2 ⟨f1.trans q1, ?_, fun t t0 t1 => ?_⟩
            · rw [show (i + 1).toNat = i.toNat + 1 by omega]
              exact q2
            · rw [q3, q4]
              by_cases ht : t = i
              · subst ht
                rw [if_pos rfl, if_pos rfl]
                exact ⟨rfl, rfl⟩
              · rw [if_neg ht, if_neg ht]
                exact f3 t t0 (by omega)
    · exfalso; omega
  · intro i h0 h1 ih
    have hbi := hbx i h0 h1
    refine j_iload_n 3 rfl rfl dX1_run_2 ?_
    refine j_aload_n 4 rfl rfl dX1_run_3 ?_
    refine g_geti 7 rfl 0 0 rfl fl_X1_9 dX1_run_4 (by decide) ( rfl) ( rfl) ?_
    rw [hRo _ 37 (by decide) (by decide) (by decide) (by decide), k0]
    refine j_icmp_ge 63 10 (by decide) rfl dX1_run_7 (by intro hR; first | omega | exact hR _ _ | exact jb_r _ | exact hR0 _ _ | assumption) (by intro hR; first | omega | exact hR _ _ | exact jb_r _ | exact hR0 _ _ | assumption) (fun h => ?_) (fun h => ?_)
    · exfalso; omega
    · refine j_aload_n 11 rfl rfl dX1_run_10 ?_
      refine j_getr 14 rfl 9 fl_X1_42 dX1_run_11 (by decide) ( rfl) ( rfl) ?_
      refine j_iload_n 15 rfl rfl dX1_run_14 ?_
      refine j_aload_n 16 rfl rfl dX1_run_15 ?_
      refine j_getr 19 rfl 4 fl_X1_25 dX1_run_16 (by decide) ( rfl) ( rfl) ?_
      refine j_iload_n 20 rfl rfl dX1_run_19 ?_
      refine j_iald 21 rfl dX1_run_20 (by decide) rfl (by decide) rfl (by omega) ?_
      rw [hRo _ 41 (by decide) (by decide) (by decide) (by decide), k4]
      refine j_aload_n 22 rfl rfl dX1_run_21 ?_
      refine j_getr 25 rfl 2 fl_X1_19 dX1_run_22 (by decide) ( rfl) ( rfl) ?_
      refine j_iload_n 26 rfl rfl dX1_run_25 ?_
      refine j_iald 27 rfl dX1_run_26 (by decide) rfl (by decide) rfl (by omega) ?_
      rw [hRo _ 39 (by decide) (by decide) (by decide) (by decide), k2]
      refine jS2i 30 rfl dX1_run_27 lk_X1_98 rfl rfl (s_placesAround) (fun r H1 ⟨e, hr⟩ => ?_)
      subst e
      subst hr
      refine j_iast 31 rfl dX1_run_30 (by decide) rfl (by decide) rfl (by omega) (by intro hR; exact jb_r _) ?_
      refine j_aload_n 32 rfl rfl dX1_run_31 ?_
      refine j_getr 35 rfl 10 fl_X1_45 dX1_run_32 (by decide) ( rfl) ( rfl) ?_
      refine j_iload_n 36 rfl rfl dX1_run_35 ?_
      refine j_aload_n 37 rfl rfl dX1_run_36 ?_
      refine j_getr 40 rfl 3 fl_X1_22 dX1_run_37 (by decide) ( rfl) ( rfl) ?_
      refine j_iload_n 41 rfl rfl dX1_run_40 ?_
      refine j_iald 42 rfl dX1_run_41 (by decide) rfl (by decide) rfl (by omega) ?_
      rw [jU_k (by decide), hRo _ 40 (by decide) (by decide) (by decide) (by decide), k3]
      refine j_iast 43 rfl dX1_run_42 (by decide) rfl (by decide) rfl (by omega) (by intro hR; first | omega | exact hR _ _ | exact jb_r _ | exact hR0 _ _ | assumption) ?_
      refine j_aload_n 44 rfl rfl dX1_run_43 ?_
      refine j_getr 47 rfl 11 fl_X1_48 dX1_run_44 (by decide) ( rfl) ( rfl) ?_
      refine j_iload_n 48 rfl rfl dX1_run_47 ?_
      refine j_iconst 49 rfl dX1_run_48 ?_
      refine j_iast 50 rfl dX1_run_49 (by decide) rfl (by decide) rfl (by omega) (by intro hR; first | omega | exact hR _ _ | exact jb_r _ | exact hR0 _ _ | assumption) ?_
      refine j_aload_n 51 rfl rfl dX1_run_50 ?_
      refine j_getr 54 rfl 12 fl_X1_51 dX1_run_51 (by decide) ( rfl) ( rfl) ?_
      refine j_iload_n 55 rfl rfl dX1_run_54 ?_
      refine j_iconst 56 rfl dX1_run_55 ?_
      refine j_iast 57 rfl dX1_run_56 (by decide) rfl (by decide) rfl (by omega) (by intro hR; first | omega | exact hR _ _ | exact jb_r _ | exact hR0 _ _ | assumption) ?_
      rw [hR0s i h0]
      refine j_iinc 60 rfl rfl st_3_2 (by decide) rfl dX1_run_57 ?_
      refine j_goto 2 (by decide) dX1_run_60 ?_
      exact ih
end S16
