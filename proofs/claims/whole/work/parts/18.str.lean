/-! ===== the text "telwx": rows and contracts ===== -/
section S18
variable {E : jE} {me : jM} {Q : Option Value → jH → Prop} {pc : Nat} {lv : List (Option Value)} {st : List Value} {H : jH} {P : Int → jH → Prop}
theorem j_ldcS (n : Nat) (hn : pc + 2 = n) (ho : me.1.cls = RX0) (hd : decode me.2.1 pc = .ok (.ldc 38, 2)) (k : jWP E me Q n lv (jRF E 78 :: st) H) : jWP E me Q pc lv st H := by
  subst hn
  intro p e s m args below meth c heap locs ls F S X V Y
  have h := F.2.2.2.1
  rw [ho] at h
  exact va_ldcS F.1 F.2.1 h S.2.2.2.2.1 hd (k p e s m args below meth c heap locs ls F S X V Y)
theorem j_sval (n : Nat) (hn : pc + 3 = n) (ho : me.1.cls = RJ0) (hl : Cond.fieldLink RJ0 9 "java/lang/String" "value" "[B" ∈ jW) (hd : decode me.2.1 pc = .ok (.getfield 9, 3)) (k : jWP E me Q n lv (jRF E 79 :: st) H) : jWP E me Q pc lv (jRF E 78 :: st) H := by
  subst hn
  intro p e s m args below meth c heap locs ls F S X V Y
  have h := F.2.2.2.1
  rw [ho] at h
  exact vk_getf F.1 F.2.1 (S.2.2.2.2.2.1.1 0 (by decide)).2.2.1 V h (F.2.2.2.2.1 _ (List.mem_cons_of_mem _ hl)) (fun _ h => h) hd (k p e s m args below meth c heap locs ls F S X V Y)
theorem j_scod (n : Nat) (hn : pc + 3 = n) (ho : me.1.cls = RJ0) (hl : Cond.fieldLink RJ0 15 "java/lang/String" "coder" "B" ∈ jW) (hd : decode me.2.1 pc = .ok (.getfield 15, 3)) (k : jWP E me Q n lv (.int (jI 0) :: st) H) : jWP E me Q pc lv (jRF E 78 :: st) H := by
  subst hn
  intro p e s m args below meth c heap locs ls F S X V Y
  have h := F.2.2.2.1
  rw [ho] at h
  exact vk_getf F.1 F.2.1 (S.2.2.2.2.2.1.1 0 (by decide)).2.1 V h (F.2.2.2.2.1 _ (List.mem_cons_of_mem _ hl)) (fun _ h => h) hd (k p e s m args below meth c heap locs ls F S X V Y)
theorem j_scmp (n : Nat) (hn : pc + 3 = n) (ho : me.1.cls = RJ0) (hl : Cond.fieldLink RJ0 38 "java/lang/String" "COMPACT_STRINGS" "Z" ∈ jW) (hd : decode me.2.1 pc = .ok (.getstatic 38, 3)) (k : jWP E me Q n lv (.int (jI 1) :: st) H) : jWP E me Q pc lv st H := by
  subst hn
  intro p e s m args below meth c heap locs ls F S X V Y
  have h := F.2.2.2.1
  rw [ho] at h
  exact va_gets F.1 F.2.1 S.2.2.2.2.2.2.1 V h (F.2.2.2.2.1 _ (List.mem_cons_of_mem _ hl)) (fun _ h => h) hd (k p e s m args below meth c heap locs ls F S X V Y)
theorem j_slen (n : Nat) (hn : pc + 1 = n) (hd : decode me.2.1 pc = .ok (.arraylength, 1)) (k : jWP E me Q n lv (.int (jI 5) :: st) H) : jWP E me Q pc lv (jRF E 79 :: st) H := by
  subst hn
  intro p e s m args below meth c heap locs ls F S X V Y
  exact va_tlen (v := jI 5) F.1 F.2.1 (S.2.2.2.2.2.1.1 0 (by decide)).2.2.2 V (by decide) hd (k p e s m args below meth c heap locs ls F S X V Y)
def jTel (i : Int) : Int := if i = 0 then 116 else if i = 1 then 101 else if i = 2 then 108 else if i = 3 then 119 else 120
theorem j_sald (n : Nat) (hn : pc + 1 = n) {i : Int} (hi : 0 ≤ i ∧ i < 5) (hd : decode me.2.1 pc = .ok (.baload, 1)) (k : jWP E me Q n lv (.int (jI (jTel i)) :: st) H) : jWP E me Q pc lv (.int (jI i) :: jRF E 79 :: st) H := by
  subst hn
  intro p e s m args below meth c heap locs ls F S X V Y
  refine va_tb (v := .int (jI (jTel i))) F.1 F.2.1 (S.2.2.2.2.2.1.1 0 (by decide)).2.2.2 V (jI_in (n := 5) (by decide) hi.1 hi.2) ?_ hd (k p e s m args below meth c heap locs ls F S X V Y)
  rcases (show i = 0 ∨ i = 1 ∨ i = 2 ∨ i = 3 ∨ i = 4 by omega) with rfl | rfl | rfl | rfl | rfl <;> decide
theorem j_min (n : Nat) (hn : pc + 3 = n) {ix : Nat} {a b : Int} (hl : Cond.methodLink me.1.cls ix Lib.Math.min.name ∈ jW ∧ Cond.static Lib.Math.min.name ∈ jW ∧ Cond.initialized "java/lang/Math" ∈ jW ∧ Cond.code Lib.Math.min.name Lib.Math.min.code 2 (some .int) ∈ jW) (hd : decode me.2.1 pc = .ok (.invokestatic ix, 3)) (ha : jR H → -2147483648 ≤ a ∧ a ≤ 2147483647) (hb : jR H → -2147483648 ≤ b ∧ b ≤ 2147483647) (hf : 1 ≤ me.2.2.2.2.1) (hlo : (st.map fun v => v.category).sum + 13 ≤ me.2.2.2.2.2) (k : ∀ v, ((b < a ∧ v = b) ∨ (a ≤ b ∧ v = a)) → jWP E me Q n lv (.int (jI v) :: st) H) : jWP E me Q pc lv (.int (jI b) :: .int (jI a) :: st) H := by
  subst hn
  intro p e s m args below meth c heap locs ls F S X V Y
  refine va_mmin F.1 F.2.1 (F.2.2.1.trans Y.1.symm) F.2.2.2.1 (F.2.2.2.2.1 _ (List.mem_cons_of_mem _ hl.1)) (F.2.2.2.2.1 _ (List.mem_cons_of_mem _ hl.2.1)) (F.2.2.2.2.1 _ (List.mem_cons_of_mem _ hl.2.2.1)) (F.2.2.2.2.1 _ (List.mem_cons_of_mem _ hl.2.2.2)) hf hlo (Nat.le_refl _) (Nat.le_refl _) hd ?_
  by_cases h : b < a
  · rw [if_pos ((jI_lt (hb X.2) (ha X.2)).mpr h)]
    exact k b (by omega) p e s m args below meth c heap locs ls F S X V Y
  · rw [if_neg (fun q => h ((jI_lt (hb X.2) (ha X.2)).mp q))]
    exact k a (by omega) p e s m args below meth c heap locs ls F S X V Y
/-- a call of a method of the text -/
theorem j_callT {me' : jM} {ix na : Nat} {As st0 : List Value} {Q' : Option Value → jH → Prop} (hd : decode me.2.1 pc = .ok (.invokevirtual ix, 3)) (hl : jLv me.1.cls ix me' na) (hf : jFit me me' = true) (hc : jCat st = true) (hcl : me'.1.cls = "java/lang/String") (hna : As.length = na) (hst : st0 = As.reverse ++ jRF E 78 :: st) (hok : jOk E me' (jRF E 78 :: As) H Q') (k : ∀ r H', Q' r H' → jWP E me Q (pc + 3) lv (r.toList ++ st) H') : jWP E me Q pc lv st0 H := by
  intro p e s m args below meth c heap locs ls F S X V Y
  obtain ⟨hl, hs⟩ := hl
  have cw : CallB (jRoom me) s args me.1.cls ix me'.1 me'.2.1 me'.2.2.1 me'.2.2.2.1 (jWd me') (jRoom me') 0 0 na := callB_of na F.2.2.2.2.1 (jGood hl.2.2.1) rfl rfl rfl (F.2.2.2.2.1 _ (List.mem_cons_of_mem _ hl.2.1)) (F.2.2.2.2.1 _ (List.mem_cons_of_mem _ hl.1)) hl.2.2.2 (jFit_of hf)
  have hrc := vk_recv (i := 0) S.2.2.2.2.2.1 (by decide) V
  rw [← hcl] at hrc
  refine jBack (Q' := Q') (av := (jRF E 78 :: As).toArray) (va_runV (As := As) (rest := st) ⟨F.1, F.2.1, F.2.2.1, F.2.2.2.1, F.2.2.2.2.1⟩ hok ⟨cw, F.2.2.2.2.1 _ (List.mem_cons_of_mem _ hs.1), F.2.2.2.2.1 _ (List.mem_cons_of_mem _ hs.2)⟩ ⟨jPc_blind E _ H, hrc, fun U hU hW => ⟨rfl, by rw [hU]; exact X, S.go (by rw [hU]; exact V) hW⟩⟩ rfl hna Y.1 hst (lv_room (Nat.le_of_ble_eq_true hc)) hd ⟨Nat.le_refl _, Nat.le_refl _⟩) k F S V Y
theorem jT0 (n : Nat) (hn : pc + 3 = n) {me' : jM} {ix : Nat} (hd : decode me.2.1 pc = .ok (.invokevirtual ix, 3)) (hl : jLv me.1.cls ix me' 0) (hf : jFit me me' = true) (hc : jCat st = true) (hcl : me'.1.cls = "java/lang/String") (hok : jOk E me' [jRF E 78] H (jQi P)) (k : ∀ x H', P x H' → jWP E me Q n lv (.int (jI x) :: st) H') : jWP E me Q pc lv (jRF E 78 :: st) H := by
  subst hn
  exact j_callT (As := []) (st := st) hd hl hf hc hcl rfl rfl hok (fun r H' ⟨x, e, q⟩ => by subst e; exact k x H' q)
theorem jT1 (n : Nat) (hn : pc + 3 = n) {me' : jM} {ix : Nat} {v0 : Value} (hd : decode me.2.1 pc = .ok (.invokevirtual ix, 3)) (hl : jLv me.1.cls ix me' 1) (hf : jFit me me' = true) (hc : jCat st = true) (hcl : me'.1.cls = "java/lang/String") (hok : jOk E me' [jRF E 78, v0] H (jQi P)) (k : ∀ x H', P x H' → jWP E me Q n lv (.int (jI x) :: st) H') : jWP E me Q pc lv (v0 :: jRF E 78 :: st) H := by
  subst hn
  exact j_callT (As := [v0]) (st := st) hd hl hf hc hcl rfl rfl hok (fun r H' ⟨x, e, q⟩ => by subst e; exact k x H' q)
theorem jT2 (n : Nat) (hn : pc + 3 = n) {me' : jM} {ix : Nat} {v0 v1 : Value} (hd : decode me.2.1 pc = .ok (.invokevirtual ix, 3)) (hl : jLv me.1.cls ix me' 2) (hf : jFit me me' = true) (hc : jCat st = true) (hcl : me'.1.cls = "java/lang/String") (hok : jOk E me' [jRF E 78, v0, v1] H (jQi P)) (k : ∀ x H', P x H' → jWP E me Q n lv (.int (jI x) :: st) H') : jWP E me Q pc lv (v1 :: v0 :: jRF E 78 :: st) H := by
  subst hn
  exact j_callT (As := [v0, v1]) (st := st) hd hl hf hc hcl rfl rfl hok (fun r H' ⟨x, e, q⟩ => by subst e; exact k x H' q)
theorem j_xret {ty : FieldType} {x : Int} (hd : decode me.2.1 pc = .ok (.ireturn, 1)) (hr : me.2.2.2.1 = some ty) (hn : narrow ty (.int (jI x)) = .int (jI x)) (hq : P x H) : jWP E me (jQi P) pc lv [.int (jI x)] H := by
  intro p e s m args below meth c heap locs ls F S X V Y
  exact W.zret (hlocks := F.2.2.2.2.2.2) F.1 F.2.1 (F.2.2.2.2.2.1.trans hr) hn (fun t ht _ => ⟨⟨_, H, rfl, ⟨x, rfl, hq⟩, by rw [ht]; exact X⟩, V.F ht⟩) V.2.2 hd
end S18
theorem ws_9 : Cond.fieldLink RJ0 9 "java/lang/String" "value" "[B" ∈ jW := jW_of (List.mem_append_right _ (List.mem_of_getElem? (l := tables_1) (i := 1104) (by decide +kernel))) rfl
theorem ws_15 : Cond.fieldLink RJ0 15 "java/lang/String" "coder" "B" ∈ jW := jW_of (List.mem_append_right _ (List.mem_of_getElem? (l := tables_1) (i := 1103) (by decide +kernel))) rfl
theorem ws_38 : Cond.fieldLink RJ0 38 "java/lang/String" "COMPACT_STRINGS" "Z" ∈ jW := jW_of (List.mem_append_right _ (List.mem_of_getElem? (l := tables_1) (i := 255) (by decide +kernel))) rfl
theorem mx_J1_92 : Cond.methodLink RJ1 92 Lib.Math.max.name ∈ jW ∧ Cond.static Lib.Math.max.name ∈ jW ∧ Cond.initialized "java/lang/Math" ∈ jW ∧ Cond.code Lib.Math.max.name Lib.Math.max.code 2 (some .int) ∈ jW := ⟨jW_of (List.mem_append_right _ (List.mem_of_getElem? (l := tables_1) (i := 271) (by decide +kernel))) rfl, jW_of (List.mem_append_right _ (List.mem_of_getElem? (l := tables_1) (i := 272) (by decide +kernel))) rfl, jW_of (List.mem_append_right _ (List.mem_of_getElem? (l := tables_1) (i := 9) (by decide +kernel))) rfl, jW_of (List.mem_append_right _ (List.mem_of_getElem? (l := tables_1) (i := 273) (by decide +kernel))) rfl⟩
theorem mn_J1_38 : Cond.methodLink RJ1 38 Lib.Math.min.name ∈ jW ∧ Cond.static Lib.Math.min.name ∈ jW ∧ Cond.initialized "java/lang/Math" ∈ jW ∧ Cond.code Lib.Math.min.name Lib.Math.min.code 2 (some .int) ∈ jW := ⟨jW_of (List.mem_append_right _ (List.mem_of_getElem? (l := tables_1) (i := 274) (by decide +kernel))) rfl, jW_of (List.mem_append_right _ (List.mem_of_getElem? (l := tables_1) (i := 275) (by decide +kernel))) rfl, jW_of (List.mem_append_right _ (List.mem_of_getElem? (l := tables_1) (i := 9) (by decide +kernel))) rfl, jW_of (List.mem_append_right _ (List.mem_of_getElem? (l := tables_1) (i := 276) (by decide +kernel))) rfl⟩
/-- which of the letters -/
def jIdx (c : Int) : Int := if c = 116 then 0 else if c = 101 then 1 else if c = 108 then 2 else if c = 119 then 3 else if c = 120 then 4 else -1
theorem byte_all : ∀ c : Fin 256, bByte ((c : Nat) : Int) = if ((c : Nat) : Int) < 128 then ((c : Nat) : Int) else ((c : Nat) : Int) - 256 := by decide +kernel
theorem char_all : ∀ c : Fin 256, bChar ((c : Nat) : Int) = ((c : Nat) : Int) := by decide +kernel
theorem byte_of {c : Int} (h : 0 ≤ c ∧ c < 256) : bByte c = if c < 128 then c else c - 256 := by
  have := byte_all ⟨c.toNat, by omega⟩
  simp only [Int.toNat_of_nonneg h.1] at this
  exact this
theorem char_of {c : Int} (h : 0 ≤ c ∧ c < 256) : bChar c = c := by
  have := char_all ⟨c.toNat, by omega⟩
  simp only [Int.toNat_of_nonneg h.1] at this
  exact this
section S18b
variable {E : jE} {H : jH}
-- J0_isLatin1_aae02
theorem s_isLatin1 : jOk E mJ0_isLatin1_aae02 [jRF E 78] H (jQi fun r H' => H' = H ∧ r = 1) := by
  refine jOk.rng (fun hR0 => ?_)
  refine jOk.ofe rfl (Nat.le_of_ble_eq_true rfl) (en_a_1 (E := E)) ?_
  refine j_scmp 3 rfl rfl ws_38 dJ0_isLatin1_aae02_0 ?_
  refine j_if_eq 17 6 (by decide) rfl dJ0_isLatin1_aae02_3 (by intro hR; first | omega | exact hR _ _ | exact jb_r _ | exact hR0 _ _ | assumption) (fun h => ?_) (fun h => ?_)
  · exfalso; omega
  · refine j_aload_n 7 rfl rfl dJ0_isLatin1_aae02_6 ?_
    refine j_scod 10 rfl rfl ws_15 dJ0_isLatin1_aae02_7 ?_
    refine j_if_ne 17 13 (by decide) rfl dJ0_isLatin1_aae02_10 (by intro hR; first | omega | exact hR _ _ | exact jb_r _ | exact hR0 _ _ | assumption) (fun h => ?_) (fun h => ?_)
    · exfalso; omega
    · refine j_iconst 14 rfl dJ0_isLatin1_aae02_13 ?_
      refine j_goto 18 (by decide) dJ0_isLatin1_aae02_14 ?_
      refine j_zreti dJ0_isLatin1_aae02_18 rfl (by first | decide | omega) ?_
      exact ⟨rfl, rfl⟩
-- J0_coder_7d493
theorem s_coder : jOk E mJ0_coder_7d493 [jRF E 78] H (jQi fun r H' => H' = H ∧ r = 0) := by
  refine jOk.rng (fun hR0 => ?_)
  refine jOk.ofe rfl (Nat.le_of_ble_eq_true rfl) (en_a_1 (E := E)) ?_
  refine j_scmp 3 rfl rfl ws_38 dJ0_coder_7d493_0 ?_
  refine j_if_eq 13 6 (by decide) rfl dJ0_coder_7d493_3 (by intro hR; first | omega | exact hR _ _ | exact jb_r _ | exact hR0 _ _ | assumption) (fun h => ?_) (fun h => ?_)
  · exfalso; omega
  · refine j_aload_n 7 rfl rfl dJ0_coder_7d493_6 ?_
    refine j_scod 10 rfl rfl ws_15 dJ0_coder_7d493_7 ?_
    refine j_goto 14 (by decide) dJ0_coder_7d493_10 ?_
    exact j_xret dJ0_coder_7d493_14 rfl (by decide) ⟨rfl, rfl⟩
-- J0_length_8abf5
theorem s_length : jOk E mJ0_length_8abf5 [jRF E 78] H (jQi fun r H' => H' = H ∧ r = 5) := by
  refine jOk.rng (fun hR0 => ?_)
  refine jOk.ofe rfl (Nat.le_of_ble_eq_true rfl) (en_a_1 (E := E)) ?_
  refine j_aload_n 1 rfl rfl dJ0_length_8abf5_0 ?_
  refine j_sval 4 rfl rfl ws_9 dJ0_length_8abf5_1 ?_
  refine j_slen 5 rfl dJ0_length_8abf5_4 ?_
  refine j_aload_n 6 rfl rfl dJ0_length_8abf5_5 ?_
  refine jT0 9 rfl dJ0_length_8abf5_6 lk_J0_335 rfl rfl rfl (s_coder) (fun x H1 ⟨e, hx⟩ => ?_)
  subst e
  subst hx
  refine k_ishr 10 rfl dJ0_length_8abf5_9 ?_
  refine j_ireti dJ0_length_8abf5_10 rfl ?_
  exact ⟨rfl, by decide⟩
-- J1_canEncode_9a6ad
theorem s_canEncode {c : Int} (hc : -2147483648 ≤ c ∧ c ≤ 2147483647) : jOk E mJ1_canEncode_9a6ad [.int (jI c)] H (jQi fun r H' => H' = H ∧ ((r = 1 ∧ 0 ≤ c ∧ c < 256) ∨ (r = 0 ∧ ¬ (0 ≤ c ∧ c < 256)))) := by
  refine jOk.rng (fun hR0 => ?_)
  refine jOk.ofe rfl (Nat.le_of_ble_eq_true rfl) (en_i_1 (E := E)) ?_
  refine j_iload_n 1 rfl rfl dJ1_canEncode_9a6ad_0 ?_
  refine j_if_lt 15 4 (by decide) rfl dJ1_canEncode_9a6ad_1 (by intro hR; first | omega | exact hR _ _ | exact jb_r _ | exact hR0 _ _ | assumption) (fun h1 => ?_) (fun h1 => ?_)
  · refine j_iconst 16 rfl dJ1_canEncode_9a6ad_15 ?_
    refine j_zreti dJ1_canEncode_9a6ad_16 rfl (by first | decide | omega) ?_
    exact ⟨rfl, by omega⟩
  · refine j_iload_n 5 rfl rfl dJ1_canEncode_9a6ad_4 ?_
    refine j_sipush 8 rfl rfl dJ1_canEncode_9a6ad_5 ?_
    refine j_icmp_gt 15 11 (by decide) rfl dJ1_canEncode_9a6ad_8 (by intro hR; first | omega | exact hR _ _ | exact jb_r _ | exact hR0 _ _ | assumption) (by intro hR; first | omega | exact hR _ _ | exact jb_r _ | exact hR0 _ _ | assumption) (fun h8 => ?_) (fun h8 => ?_)
    · refine j_iconst 16 rfl dJ1_canEncode_9a6ad_15 ?_
      refine j_zreti dJ1_canEncode_9a6ad_16 rfl (by first | decide | omega) ?_
      exact ⟨rfl, by omega⟩
    · refine j_iconst 12 rfl dJ1_canEncode_9a6ad_11 ?_
      refine j_goto 16 (by decide) dJ1_canEncode_9a6ad_12 ?_
      refine j_zreti dJ1_canEncode_9a6ad_16 rfl (by first | decide | omega) ?_
      exact ⟨rfl, by omega⟩
-- J1_indexOfChar_4cfef
theorem s_indexOfChar {c : Int} (hc : 0 ≤ c ∧ c < 256) : jOk E mJ1_indexOfChar_4cfef [jRF E 79, .int (jI c), .int (jI 0), .int (jI 5)] H (jQi fun r H' => H' = H ∧ r = jIdx c) := by
  refine jOk.rng (fun hR0 => ?_)
  refine jOk.ofe rfl (Nat.le_of_ble_eq_true rfl) (en_aiii_6 (E := E)) ?_
  refine j_iload_n 1 rfl rfl dJ1_indexOfChar_4cfef_0 ?_
  refine k_i2b 2 rfl dJ1_indexOfChar_4cfef_1 ?_
  rw [byte_of hc]
  refine j_istore 4 rfl st_6_4 (by decide) rfl dJ1_indexOfChar_4cfef_2 ?_
  refine j_iload_n 5 rfl rfl dJ1_indexOfChar_4cfef_4 ?_
  refine j_istore 7 rfl st_6_5 (by decide) rfl dJ1_indexOfChar_4cfef_5 ?_
  have loop := jUp 0 5 (fun i => (∀ q, 0 ≤ q → q < i → c ≠ jTel q) → jWP E mJ1_indexOfChar_4cfef (jQi fun r H' => H' = H ∧ r = jIdx c) 7 [some (jRF E 79), some (.int (jI c)), some (.int (jI 0)), some (.int (jI 5)), some (.int (jI (if c < 128 then c else c - 256))), some (.int (jI i))] [] H) ?_ ?_ 0 (by omega) (by omega)
  · exact loop (fun q _ _ => by omega)
  · intro hq
    refine j_iload 9 rfl rfl dJ1_indexOfChar_4cfef_7 ?_
    refine j_iload_n 10 rfl rfl dJ1_indexOfChar_4cfef_9 ?_
    refine j_icmp_ge 31 13 (by decide) rfl dJ1_indexOfChar_4cfef_10 (by intro hR; first | omega | exact hR _ _ | exact jb_r _ | exact hR0 _ _ | assumption) (by intro hR; first | omega | exact hR _ _ | exact jb_r _ | exact hR0 _ _ | assumption) (fun h => ?_) (fun h => ?_)
    · refine j_iconst 32 rfl dJ1_indexOfChar_4cfef_31 ?_
      refine j_ireti dJ1_indexOfChar_4cfef_32 rfl ?_
      refine ⟨rfl, ?_⟩
      have h0 := hq 0 (by omega) (by omega)
      have h1 := hq 1 (by omega) (by omega)
      have h2 := hq 2 (by omega) (by omega)
      have h3 := hq 3 (by omega) (by omega)
      have h4 := hq 4 (by omega) (by omega)
      simp [jTel] at h0 h1 h2 h3 h4
      unfold jIdx
      rw [if_neg h0, if_neg h1, if_neg h2, if_neg h3, if_neg h4]
    · exfalso; omega
  · intro i h0 h1 ih hq
    have hr : 0 ≤ jTel i ∧ jTel i < 128 := by unfold jTel; repeat' split; all_goals omega
    have hr2 : -128 ≤ (if c < 128 then c else c - 256) ∧ (if c < 128 then c else c - 256) < 128 := by split <;> omega
    refine j_iload 9 rfl rfl dJ1_indexOfChar_4cfef_7 ?_
    refine j_iload_n 10 rfl rfl dJ1_indexOfChar_4cfef_9 ?_
    refine j_icmp_ge 31 13 (by decide) rfl dJ1_indexOfChar_4cfef_10 (by intro hR; first | omega | exact hR _ _ | exact jb_r _ | exact hR0 _ _ | assumption) (by intro hR; first | omega | exact hR _ _ | exact jb_r _ | exact hR0 _ _ | assumption) (fun h => ?_) (fun h => ?_)
    · exfalso; omega
    · refine j_aload_n 14 rfl rfl dJ1_indexOfChar_4cfef_13 ?_
      refine j_iload 16 rfl rfl dJ1_indexOfChar_4cfef_14 ?_
      refine j_sald 17 rfl (by omega) dJ1_indexOfChar_4cfef_16 ?_
      refine j_iload 19 rfl rfl dJ1_indexOfChar_4cfef_17 ?_
      refine j_icmp_ne 25 22 (by decide) rfl dJ1_indexOfChar_4cfef_19 (by intro hR; first | omega | exact hR _ _ | exact jb_r _ | exact hR0 _ _ | assumption) (by intro hR; first | omega | exact hR _ _ | exact jb_r _ | exact hR0 _ _ | assumption) (fun h2 => ?_) (fun h2 => ?_)
      · refine j_iinc 28 rfl rfl st_6_5 (by decide) rfl dJ1_indexOfChar_4cfef_25 ?_
        refine j_goto 7 (by decide) dJ1_indexOfChar_4cfef_28 ?_
        refine ih (fun q q0 q1 => ?_)
        by_cases hqi : q = i
        · subst hqi
          intro e
          apply h2
          rw [← e, if_pos (by omega)]
        · exact hq q q0 (by omega)
      · refine j_iload 24 rfl rfl dJ1_indexOfChar_4cfef_22 ?_
        refine j_ireti dJ1_indexOfChar_4cfef_24 rfl ?_
        refine ⟨rfl, ?_⟩
        have hc2 : c = jTel i := by
          by_cases h128 : c < 128
          · rw [if_pos h128] at h2; exact h2.symm
          · rw [if_neg h128] at h2; omega
        rw [hc2]
        rcases (show i = 0 ∨ i = 1 ∨ i = 2 ∨ i = 3 ∨ i = 4 by omega) with rfl | rfl | rfl | rfl | rfl <;> decide
-- J1_indexOf_4cfef
theorem s_L1indexOf {c : Int} (hc : 0 ≤ c ∧ c < 256) : jOk E mJ1_indexOf_4cfef [jRF E 79, .int (jI c), .int (jI 0), .int (jI 5)] H (jQi fun r H' => H' = H ∧ r = jIdx c) := by
  refine jOk.rng (fun hR0 => ?_)
  refine jOk.ofe rfl (Nat.le_of_ble_eq_true rfl) (en_aiii_4 (E := E)) ?_
  refine j_iload_n 1 rfl rfl dJ1_indexOf_4cfef_0 ?_
  refine jS1i 4 rfl dJ1_indexOf_4cfef_1 lk_J1_88 rfl rfl (s_canEncode (by omega)) (fun r H1 ⟨e, hr⟩ => ?_)
  subst e
  refine j_if_ne 9 7 (by decide) rfl dJ1_indexOf_4cfef_4 (by intro hR; first | omega | exact hR _ _ | exact jb_r _ | exact hR0 _ _ | assumption) (fun h => ?_) (fun h => ?_)
  · refine j_iload_n 10 rfl rfl dJ1_indexOf_4cfef_9 ?_
    refine j_iconst 11 rfl dJ1_indexOf_4cfef_10 ?_
    refine j_max 14 rfl mx_J1_92 dJ1_indexOf_4cfef_11 (by intro _; omega) (by intro _; omega) (by decide) (Nat.le_of_ble_eq_true rfl) (fun v hv => ?_)
    obtain rfl : v = 0 := by omega
    refine j_istore_n 15 rfl st_4_2 (by decide) rfl dJ1_indexOf_4cfef_14 ?_
    refine j_iload_n 16 rfl rfl dJ1_indexOf_4cfef_15 ?_
    refine j_aload_n 17 rfl rfl dJ1_indexOf_4cfef_16 ?_
    refine j_slen 18 rfl dJ1_indexOf_4cfef_17 ?_
    refine j_min 21 rfl mn_J1_38 dJ1_indexOf_4cfef_18 (by intro _; omega) (by intro _; omega) (by decide) (Nat.le_of_ble_eq_true rfl) (fun v hv => ?_)
    obtain rfl : v = 5 := by omega
    refine j_istore_n 22 rfl st_4_3 (by decide) rfl dJ1_indexOf_4cfef_21 ?_
    refine j_iload_n 23 rfl rfl dJ1_indexOf_4cfef_22 ?_
    refine j_iload_n 24 rfl rfl dJ1_indexOf_4cfef_23 ?_
    refine j_icmp_lt 29 27 (by decide) rfl dJ1_indexOf_4cfef_24 (by intro hR; first | omega | exact hR _ _ | exact jb_r _ | exact hR0 _ _ | assumption) (by intro hR; first | omega | exact hR _ _ | exact jb_r _ | exact hR0 _ _ | assumption) (fun h2 => ?_) (fun h2 => ?_)
    · refine j_aload_n 30 rfl rfl dJ1_indexOf_4cfef_29 ?_
      refine j_iload_n 31 rfl rfl dJ1_indexOf_4cfef_30 ?_
      refine j_iload_n 32 rfl rfl dJ1_indexOf_4cfef_31 ?_
      refine j_iload_n 33 rfl rfl dJ1_indexOf_4cfef_32 ?_
      refine jS4i 36 rfl dJ1_indexOf_4cfef_33 lk_J1_95 rfl rfl (s_indexOfChar hc) (fun x H2 ⟨e, hx⟩ => ?_)
      subst e
      refine j_ireti dJ1_indexOf_4cfef_36 rfl ?_
      exact ⟨rfl, hx⟩
    · exfalso; omega
  · exfalso; omega
-- J0_indexOf_7cf53
theorem s_indexOf2 {c : Int} (hc : 0 ≤ c ∧ c < 256) : jOk E mJ0_indexOf_7cf53 [jRF E 78, .int (jI c), .int (jI 0)] H (jQi fun r H' => H' = H ∧ r = jIdx c) := by
  refine jOk.rng (fun hR0 => ?_)
  refine jOk.ofe rfl (Nat.le_of_ble_eq_true rfl) (en_aii_3 (E := E)) ?_
  refine j_aload_n 1 rfl rfl dJ0_indexOf_7cf53_0 ?_
  refine jT0 4 rfl dJ0_indexOf_7cf53_1 lk_J0_492 rfl rfl rfl (s_isLatin1) (fun x H1 ⟨e, hx⟩ => ?_)
  subst e
  subst hx
  refine j_if_eq 23 7 (by decide) rfl dJ0_indexOf_7cf53_4 (by intro hR; first | omega | exact hR _ _ | exact jb_r _ | exact hR0 _ _ | assumption) (fun h => ?_) (fun h => ?_)
  · exfalso; omega
  · refine j_aload_n 8 rfl rfl dJ0_indexOf_7cf53_7 ?_
    refine j_sval 11 rfl rfl ws_9 dJ0_indexOf_7cf53_8 ?_
    refine j_iload_n 12 rfl rfl dJ0_indexOf_7cf53_11 ?_
    refine j_iload_n 13 rfl rfl dJ0_indexOf_7cf53_12 ?_
    refine j_aload_n 14 rfl rfl dJ0_indexOf_7cf53_13 ?_
    refine jT0 17 rfl dJ0_indexOf_7cf53_14 lk_J0_505 rfl rfl rfl (s_length) (fun x H2 ⟨e, hx⟩ => ?_)
    subst e
    subst hx
    refine jS4i 20 rfl dJ0_indexOf_7cf53_17 lk_J0_637 rfl rfl (s_L1indexOf hc) (fun x H2 ⟨e, hx⟩ => ?_)
    subst e
    refine j_goto 36 (by decide) dJ0_indexOf_7cf53_20 ?_
    refine j_ireti dJ0_indexOf_7cf53_36 rfl ?_
    exact ⟨rfl, hx⟩
-- J0_indexOf_0f7a4
theorem s_indexOf {c : Int} (hc : 0 ≤ c ∧ c < 256) : jOk E mJ0_indexOf_0f7a4 [jRF E 78, .int (jI c)] H (jQi fun r H' => H' = H ∧ r = jIdx c) := by
  refine jOk.rng (fun hR0 => ?_)
  refine jOk.ofe rfl (Nat.le_of_ble_eq_true rfl) (en_ai_2 (E := E)) ?_
  refine j_aload_n 1 rfl rfl dJ0_indexOf_0f7a4_0 ?_
  refine j_iload_n 2 rfl rfl dJ0_indexOf_0f7a4_1 ?_
  refine j_iconst 3 rfl dJ0_indexOf_0f7a4_2 ?_
  refine jT2 6 rfl dJ0_indexOf_0f7a4_3 lk_J0_633 rfl rfl rfl (s_indexOf2 hc) (fun x H1 ⟨e, hx⟩ => ?_)
  subst e
  refine j_ireti dJ0_indexOf_0f7a4_6 rfl ?_
  exact ⟨rfl, hx⟩
-- X0_isDue
theorem s_isDue {a c : Int} (ha : 0 ≤ a ∧ a < 35) (hc : 0 ≤ c ∧ c < 256) : jOk E mX0_isDue [.int (jI a), .int (jI c)] H (jQi fun r H' => H' = H ∧ ((r = 1 ∧ ((a % 4 = 0 ∧ 0 ≤ jIdx c) ∨ (a % 4 = 3 ∧ c = 59) ∨ ((a % 4 = 1 ∨ a % 4 = 2) ∧ 49 ≤ c ∧ c ≤ 57))) ∨ (r = 0 ∧ ¬ ((a % 4 = 0 ∧ 0 ≤ jIdx c) ∨ (a % 4 = 3 ∧ c = 59) ∨ ((a % 4 = 1 ∨ a % 4 = 2) ∧ 49 ≤ c ∧ c ≤ 57))))) := by
  have hix : -1 ≤ jIdx c ∧ jIdx c ≤ 4 := by unfold jIdx; repeat' split; all_goals omega
  refine jOk.rng (fun hR0 => ?_)
  refine jOk.ofe rfl (Nat.le_of_ble_eq_true rfl) (en_ii_2 (E := E)) ?_
  refine j_iload_n 1 rfl rfl dX0_isDue_0 ?_
  refine j_iconst 2 rfl dX0_isDue_1 ?_
  refine k_irem 3 rfl (by omega) (by intro hR; first | omega | exact hR _ _ | exact jb_r _ | exact hR0 _ _ | assumption) dX0_isDue_2 ?_
  rw [iRem_n (by omega) (by omega)]
  rcases (show a % 4 = 0 ∨ a % 4 = 3 ∨ (a % 4 = 1 ∨ a % 4 = 2) by omega) with h4 | h4 | h4
  · refine j_look (off := 25) 28 dX0_isDue_3 (by decide) (by intro _; omega) (by rw [h4]; try rfl) (by decide) ?_
    refine j_iload_n 29 rfl rfl dX0_isDue_28 ?_
    refine j_iconst 30 rfl dX0_isDue_29 ?_
    refine k_idiv 31 rfl (by omega) (by intro hR; first | omega | exact hR _ _ | exact jb_r _ | exact hR0 _ _ | assumption) dX0_isDue_30 ?_
    rw [iDiv_n (by omega) (by omega)]
    refine j_bipush 33 rfl rfl dX0_isDue_31 ?_
    refine j_icmp_ge 50 36 (by decide) rfl dX0_isDue_33 (by intro hR; first | omega | exact hR _ _ | exact jb_r _ | exact hR0 _ _ | assumption) (by intro hR; first | omega | exact hR _ _ | exact jb_r _ | exact hR0 _ _ | assumption) (fun h => ?_) (fun h => ?_)
    · exfalso; omega
    · refine j_ldcS 38 rfl rfl dX0_isDue_36 ?_
      refine j_iload_n 39 rfl rfl dX0_isDue_38 ?_
      refine k_i2c 40 rfl dX0_isDue_39 ?_
      rw [char_of hc]
      refine jT1 43 rfl dX0_isDue_40 lk_X0_40 rfl rfl rfl (s_indexOf hc) (fun x H1 ⟨e, hx⟩ => ?_)
      subst e
      subst hx
      refine j_if_lt 50 46 (by decide) rfl dX0_isDue_43 (by intro hR; first | omega | exact hR _ _ | exact jb_r _ | exact hR0 _ _ | assumption) (fun h43 => ?_) (fun h43 => ?_)
      · refine j_iconst 51 rfl dX0_isDue_50 ?_
        refine j_zreti dX0_isDue_51 rfl (by first | decide | omega) ?_
        exact ⟨rfl, by omega⟩
      · refine j_iconst 47 rfl dX0_isDue_46 ?_
        refine j_goto 51 (by decide) dX0_isDue_47 ?_
        refine j_zreti dX0_isDue_51 rfl (by first | decide | omega) ?_
        exact ⟨rfl, by omega⟩
  · refine j_look (off := 49) 52 dX0_isDue_3 (by decide) (by intro _; omega) (by rw [h4]; try rfl) (by decide) ?_
    refine j_iload_n 53 rfl rfl dX0_isDue_52 ?_
    refine j_bipush 55 rfl rfl dX0_isDue_53 ?_
    refine j_icmp_ne 62 58 (by decide) rfl dX0_isDue_55 (by intro hR; first | omega | exact hR _ _ | exact jb_r _ | exact hR0 _ _ | assumption) (by intro hR; first | omega | exact hR _ _ | exact jb_r _ | exact hR0 _ _ | assumption) (fun h55 => ?_) (fun h55 => ?_)
    · refine j_iconst 63 rfl dX0_isDue_62 ?_
      refine j_zreti dX0_isDue_63 rfl (by first | decide | omega) ?_
      exact ⟨rfl, by omega⟩
    · refine j_iconst 59 rfl dX0_isDue_58 ?_
      refine j_goto 63 (by decide) dX0_isDue_59 ?_
      refine j_zreti dX0_isDue_63 rfl (by first | decide | omega) ?_
      exact ⟨rfl, by omega⟩
  · refine j_look (off := 61) 64 dX0_isDue_3 (by decide) (by intro _; omega) (by rcases h4 with h4 | h4 <;> (rw [h4]; try rfl)) (by decide) ?_
    refine j_iload_n 65 rfl rfl dX0_isDue_64 ?_
    refine j_bipush 67 rfl rfl dX0_isDue_65 ?_
    refine j_icmp_lt 80 70 (by decide) rfl dX0_isDue_67 (by intro hR; first | omega | exact hR _ _ | exact jb_r _ | exact hR0 _ _ | assumption) (by intro hR; first | omega | exact hR _ _ | exact jb_r _ | exact hR0 _ _ | assumption) (fun h67 => ?_) (fun h67 => ?_)
    · refine j_iconst 81 rfl dX0_isDue_80 ?_
      refine j_zreti dX0_isDue_81 rfl (by first | decide | omega) ?_
      exact ⟨rfl, by omega⟩
    · refine j_iload_n 71 rfl rfl dX0_isDue_70 ?_
      refine j_bipush 73 rfl rfl dX0_isDue_71 ?_
      refine j_icmp_gt 80 76 (by decide) rfl dX0_isDue_73 (by intro hR; first | omega | exact hR _ _ | exact jb_r _ | exact hR0 _ _ | assumption) (by intro hR; first | omega | exact hR _ _ | exact jb_r _ | exact hR0 _ _ | assumption) (fun h73 => ?_) (fun h73 => ?_)
      · refine j_iconst 81 rfl dX0_isDue_80 ?_
        refine j_zreti dX0_isDue_81 rfl (by first | decide | omega) ?_
        exact ⟨rfl, by omega⟩
      · refine j_iconst 77 rfl dX0_isDue_76 ?_
        refine j_goto 81 (by decide) dX0_isDue_77 ?_
        refine j_zreti dX0_isDue_81 rfl (by first | decide | omega) ?_
        exact ⟨rfl, by omega⟩
end S18b
