/-! ===== typed ends and calls, switches, copies ===== -/
def jQi (P : Int → jH → Prop) : Option Value → jH → Prop := fun r H' => ∃ x : Int, r = some (.int (jI x)) ∧ P x H'
def jQl (P : Int → jH → Prop) : Option Value → jH → Prop := fun r H' => ∃ x : Int, r = some (.long (jL x)) ∧ P x H'
def jQv (P : jH → Prop) : Option Value → jH → Prop := fun r H' => r = none ∧ P H'
theorem jOk.moni {E : jE} {me : jM} {vs : List Value} {H : jH} {P P' : Int → jH → Prop} (h : jOk E me vs H (jQi P)) (hq : ∀ x H', P x H' → P' x H') : jOk E me vs H (jQi P') := h.mono (fun r H' ⟨x, e, q⟩ => ⟨x, e, hq x H' q⟩)
theorem jOk.monl {E : jE} {me : jM} {vs : List Value} {H : jH} {P P' : Int → jH → Prop} (h : jOk E me vs H (jQl P)) (hq : ∀ x H', P x H' → P' x H') : jOk E me vs H (jQl P') := h.mono (fun r H' ⟨x, e, q⟩ => ⟨x, e, hq x H' q⟩)
theorem jOk.monv {E : jE} {me : jM} {vs : List Value} {H : jH} {P P' : jH → Prop} (h : jOk E me vs H (jQv P)) (hq : ∀ H', P H' → P' H') : jOk E me vs H (jQv P') := h.mono (fun r H' ⟨e, q⟩ => ⟨e, hq H' q⟩)
def jCmp (a b : Int) : Int := if b < a then 1 else if a = b then 0 else -1
theorem jCmp_lt (a b : Int) : jCmp a b < 0 ↔ a < b := by unfold jCmp; split <;> (try split) <;> omega
theorem jCmp_gt (a b : Int) : 0 < jCmp a b ↔ b < a := by unfold jCmp; split <;> (try split) <;> omega
theorem jCmp_eq (a b : Int) : jCmp a b = 0 ↔ a = b := by unfold jCmp; split <;> (try split) <;> omega
theorem jCmp_r (a b : Int) : -1 ≤ jCmp a b ∧ jCmp a b ≤ 1 := by unfold jCmp; split <;> (try split) <;> omega
/-- the link of a static call, of a call of a method of an object -/
def jLs (own : String) (ix : Nat) (me' : jM) (na : Nat) : Prop := jLk own ix me' na ∧ Cond.static me'.1 ∈ jW
def jLv (own : String) (ix : Nat) (me' : jM) (na : Nat) : Prop := jLk own ix me' na ∧ Cond.instanceMethod me'.1 ∈ jW ∧ Cond.selects me'.1.cls me'.1 me'.1 ∈ jW
section JTYP
variable {E : jE} {me : jM} {Q : Option Value → jH → Prop} {pc : Nat} {lv : List (Option Value)} {st : List Value} {H : jH} {P : Int → jH → Prop} {Pv : jH → Prop}
theorem j_ireti {x : Int} (hd : decode me.2.1 pc = .ok (.ireturn, 1)) (hr : me.2.2.2.1 = some .int) (hq : P x H) : jWP E me (jQi P) pc lv [.int (jI x)] H := j_iret hd hr ⟨x, rfl, hq⟩
theorem j_zreti {x : Int} (hd : decode me.2.1 pc = .ok (.ireturn, 1)) (hr : me.2.2.2.1 = some .boolean) (hx : x = 0 ∨ x = 1) (hq : P x H) : jWP E me (jQi P) pc lv [.int (jI x)] H := j_zret hd hr hx ⟨x, rfl, hq⟩
theorem j_lretl {x : Int} (hd : decode me.2.1 pc = .ok (.lreturn, 1)) (hr : me.2.2.2.1 = some .long) (hq : P x H) : jWP E me (jQl P) pc lv [.long (jL x)] H := j_lret hd hr ⟨x, rfl, hq⟩
theorem j_vretv (hd : decode me.2.1 pc = .ok (.return_, 1)) (hr : me.2.2.2.1 = none) (hq : Pv H) : jWP E me (jQv Pv) pc lv [] H := j_vret hd hr ⟨rfl, hq⟩
theorem j_lcmp (n : Nat) (hn : pc + 1 = n) {a b : Int} (hd : decode me.2.1 pc = .ok (.lcmp, 1)) (ha : jR H → -9223372036854775808 ≤ a ∧ a ≤ 9223372036854775807) (hb : jR H → -9223372036854775808 ≤ b ∧ b ≤ 9223372036854775807) (k : jWP E me Q n lv (.int (jI (jCmp a b)) :: st) H) : jWP E me Q pc lv (.long (jL b) :: .long (jL a) :: st) H := by
  subst hn
  intro p e s m args below meth c heap locs ls F S X V Y
  refine W.lcmp F.1 F.2.1 hd ?_
  have e1 : lg_cmp (jL a) (jL b) = jI (jCmp a b) := by
    unfold lg_cmp jCmp
    simp only [gt_iff_lt, jL_lt (hb X.2) (ha X.2), jL_eq (ha X.2) (hb X.2)]
    split
    · rfl
    · split <;> rfl
  rw [e1]
  exact k p e s m args below meth c heap locs ls F S X V Y
theorem j_tabIn (t : Nat) {dflt lo hi : Int} {offs : Array Int} {len : Nat} {a off : Int} (hd : decode me.2.1 pc = .ok (.tableswitch dflt lo hi offs, len)) (hr : -2147483648 ≤ a ∧ a ≤ 2147483647) (h1 : lo ≤ a ∧ a ≤ hi) (ho : offs[(a - lo).toNat]? = some off) (ht : (pc : Int) + off = (t : Int)) (k : jWP E me Q t lv st H) : jWP E me Q pc lv (.int (jI a) :: st) H := by
  intro p e s m args below meth c heap locs ls F S X V Y
  exact lv_tableIn F.1 F.2.1 hd (by rw [jI_toInt hr]; omega) (by rw [jI_toInt hr]; omega) (by rw [jI_toInt hr]; exact ho) ht (k p e s m args below meth c heap locs ls F S X V Y)
theorem j_tabOut (t : Nat) {dflt lo hi : Int} {offs : Array Int} {len : Nat} {a : Int} (hd : decode me.2.1 pc = .ok (.tableswitch dflt lo hi offs, len)) (hr : jR H → -2147483648 ≤ a ∧ a ≤ 2147483647) (h1 : a < lo ∨ hi < a) (ht : (pc : Int) + dflt = (t : Int)) (k : jWP E me Q t lv st H) : jWP E me Q pc lv (.int (jI a) :: st) H := by
  intro p e s m args below meth c heap locs ls F S X V Y
  exact lv_tableOut F.1 F.2.1 hd (by rw [jI_toInt (hr X.2)]; omega) ht (k p e s m args below meth c heap locs ls F S X V Y)
theorem j_look (t : Nat) {dflt : Int} {ps : Array (Int × Int)} {len : Nat} {a off : Int} (hd : decode me.2.1 pc = .ok (.lookupswitch dflt ps, len)) (hp : (ps.toList.zip (ps.toList.drop 1)).all (fun (a, next) => a.1 < next.1) = true) (hr : jR H → -2147483648 ≤ a ∧ a ≤ 2147483647) (ho : Op.lookupswitch.offset ps.toList dflt a = off) (ht : (pc : Int) + off = (t : Int)) (k : jWP E me Q t lv st H) : jWP E me Q pc lv (.int (jI a) :: st) H := by
  intro p e s m args below meth c heap locs ls F S X V Y
  exact lv_lookup F.1 F.2.1 hd hp (by rw [jI_toInt (hr X.2)]; exact ho) ht (k p e s m args below meth c heap locs ls F S X V Y)
/-- n items of the row a, from sp on, into the row b, from dp on -/
def jCpy (H : jH) (a b : Nat) (sp dp n : Int) : jH := fun q i => if q = b ∧ dp ≤ i ∧ i < dp + n then H a (sp + (i - dp)) else H q i
theorem jR_cpy {H : jH} (h : jR H) (a b : Nat) (sp dp n : Int) : jR (jCpy H a b sp dp n) := by
  intro k i
  unfold jCpy
  split
  · exact h _ _
  · exact h _ _
theorem j_copy (n : Nat) (hn : pc + 3 = n) {ix a b Na Nb : Nat} {sp dp q : Int} (hl : Cond.methodLink me.1.cls ix arraycopyName ∈ jW ∧ Cond.native arraycopyName ∈ jW ∧ Cond.static arraycopyName ∈ jW ∧ Cond.initialized "java/lang/System" ∈ jW) (hd : decode me.2.1 pc = .ok (.invokestatic ix, 3)) (ha : a < jK) (hb : b < jK) (oa : j_shp a = .inl Na) (ob : j_shp b = .inl Nb) (ta : j_ty a = .int) (tb : j_ty b = .int) (hNa : Na < 2 ^ 31) (hNb : Nb < 2 ^ 31) (h1 : 0 ≤ sp ∧ sp + q ≤ Na) (h2 : 0 ≤ dp ∧ dp + q ≤ Nb) (h3 : 0 ≤ q) (hf : 1 ≤ me.2.2.2.2.1) (hlo : (st.map fun v => v.category).sum + 18 ≤ me.2.2.2.2.2) (k : jWP E me Q n lv st (jCpy H a b sp dp q)) : jWP E me Q pc lv (.int (jI q) :: .int (jI dp) :: jRF E b :: .int (jI sp) :: jRF E a :: st) H := by
  subst hn
  intro p e s m args below meth c heap locs ls F S X V Y
  have ea := jWs_get E H ha
  rw [jCell_a E H oa] at ea
  have eb := jWs_get E H hb
  rw [jCell_a E H ob] at eb
  have wa := jTys_get E ha
  rw [ta] at wa
  have wb := jTys_get E hb
  rw [tb] at wb
  have rn : ∀ z : Int, 0 ≤ z → z < 2 ^ 31 → ¬ jI z < 0 := fun z z0 z1 => by rw [← jI_0, jI_lt (by omega) (by omega)]; omega
  have cs : (jI sp).toNatClampNeg = sp.toNat := jI_cl h1.1 (by omega)
  have cd : (jI dp).toNatClampNeg = dp.toNat := jI_cl h2.1 (by omega)
  have cq : (jI q).toNatClampNeg = q.toNat := jI_cl h3 (by omega)
  refine va_copyi (ty := .int) F.1 F.2.1 (F.2.2.1.trans Y.1.symm) F.2.2.2.1 (F.2.2.2.2.1 _ (List.mem_cons_of_mem _ hl.1)) (F.2.2.2.2.1 _ (List.mem_cons_of_mem _ hl.2.1)) (F.2.2.2.2.1 _ (List.mem_cons_of_mem _ hl.2.2.1)) (F.2.2.2.2.1 _ (List.mem_cons_of_mem _ hl.2.2.2)) S.1 X.1 (jD S.2.1 H) V a b a b ea eb wa wb rfl (rn sp h1.1 (by omega)) (rn dp h2.1 (by omega)) (rn q h3 (by omega)) (by rw [cs, cq]; omega) (by rw [cd, cq]; omega) (fun _ _ => rfl) hf (by show _ + (5 + 2 + 11) ≤ _; exact hlo) hd ?_
  intro H1 locs1 hP hD hS
  rw [cs, cd, cq] at hP
  have hfn : (fun j : Nat => jI (jCpy H a b sp dp q b j)) = va_cpy (fun j : Nat => jI (H a j)) (fun j : Nat => jI (H b j)) sp.toNat dp.toNat q.toNat := by
    funext z
    unfold va_cpy jCpy
    by_cases hz : dp.toNat ≤ z ∧ z < dp.toNat + q.toNat
    · rw [if_pos hz, if_pos ⟨rfl, by omega, by omega⟩]
      have : sp + ((z : Int) - dp) = ((sp.toNat + (z - dp.toNat) : Nat) : Int) := by omega
      rw [this]
    · rw [if_neg hz, if_neg (fun w => hz ⟨by omega, by omega⟩)]
  rw [jWs_set E H (jCpy H a b sp dp q) hb (by rw [jCell_a E _ ob, hfn]) (fun w hw => by funext i; unfold jCpy; rw [if_neg (fun z => hw z.1)])] at hP
  exact k p e s m args below meth c H1 locs1 ls F S ⟨hP, jR_cpy X.2 a b sp dp q⟩ hS Y

theorem jS1i (n : Nat) (hn : pc + 3 = n) {me' : jM} {ix : Nat} {v0 : Value} (hd : decode me.2.1 pc = .ok (.invokestatic ix, 3)) (hl : jLs me.1.cls ix me' 1) (hf : jFit me me' = true) (hc : jCat st = true) (hok : jOk E me' [v0] H (jQi P)) (k : ∀ x H', P x H' → jWP E me Q n lv (.int (jI x) :: st) H') : jWP E me Q pc lv (v0 :: st) H := by
  subst hn
  exact j_callS (vs := [v0]) (st := st) hd hl.1 hl.2 hf hc rfl rfl hok (fun r H' ⟨x, e, q⟩ => by subst e; exact k x H' q)
theorem jS2i (n : Nat) (hn : pc + 3 = n) {me' : jM} {ix : Nat} {v0 v1 : Value} (hd : decode me.2.1 pc = .ok (.invokestatic ix, 3)) (hl : jLs me.1.cls ix me' 2) (hf : jFit me me' = true) (hc : jCat st = true) (hok : jOk E me' [v0, v1] H (jQi P)) (k : ∀ x H', P x H' → jWP E me Q n lv (.int (jI x) :: st) H') : jWP E me Q pc lv (v1 :: v0 :: st) H := by
  subst hn
  exact j_callS (vs := [v0, v1]) (st := st) hd hl.1 hl.2 hf hc rfl rfl hok (fun r H' ⟨x, e, q⟩ => by subst e; exact k x H' q)
theorem jS3i (n : Nat) (hn : pc + 3 = n) {me' : jM} {ix : Nat} {v0 v1 v2 : Value} (hd : decode me.2.1 pc = .ok (.invokestatic ix, 3)) (hl : jLs me.1.cls ix me' 3) (hf : jFit me me' = true) (hc : jCat st = true) (hok : jOk E me' [v0, v1, v2] H (jQi P)) (k : ∀ x H', P x H' → jWP E me Q n lv (.int (jI x) :: st) H') : jWP E me Q pc lv (v2 :: v1 :: v0 :: st) H := by
  subst hn
  exact j_callS (vs := [v0, v1, v2]) (st := st) hd hl.1 hl.2 hf hc rfl rfl hok (fun r H' ⟨x, e, q⟩ => by subst e; exact k x H' q)
theorem jS4i (n : Nat) (hn : pc + 3 = n) {me' : jM} {ix : Nat} {v0 v1 v2 v3 : Value} (hd : decode me.2.1 pc = .ok (.invokestatic ix, 3)) (hl : jLs me.1.cls ix me' 4) (hf : jFit me me' = true) (hc : jCat st = true) (hok : jOk E me' [v0, v1, v2, v3] H (jQi P)) (k : ∀ x H', P x H' → jWP E me Q n lv (.int (jI x) :: st) H') : jWP E me Q pc lv (v3 :: v2 :: v1 :: v0 :: st) H := by
  subst hn
  exact j_callS (vs := [v0, v1, v2, v3]) (st := st) hd hl.1 hl.2 hf hc rfl rfl hok (fun r H' ⟨x, e, q⟩ => by subst e; exact k x H' q)
theorem jS5i (n : Nat) (hn : pc + 3 = n) {me' : jM} {ix : Nat} {v0 v1 v2 v3 v4 : Value} (hd : decode me.2.1 pc = .ok (.invokestatic ix, 3)) (hl : jLs me.1.cls ix me' 5) (hf : jFit me me' = true) (hc : jCat st = true) (hok : jOk E me' [v0, v1, v2, v3, v4] H (jQi P)) (k : ∀ x H', P x H' → jWP E me Q n lv (.int (jI x) :: st) H') : jWP E me Q pc lv (v4 :: v3 :: v2 :: v1 :: v0 :: st) H := by
  subst hn
  exact j_callS (vs := [v0, v1, v2, v3, v4]) (st := st) hd hl.1 hl.2 hf hc rfl rfl hok (fun r H' ⟨x, e, q⟩ => by subst e; exact k x H' q)
theorem jV0i (n : Nat) (hn : pc + 3 = n) {me' : jM} {ix k0 ci : Nat} (hd : decode me.2.1 pc = .ok (.invokevirtual ix, 3)) (hl : jLv me.1.cls ix me' 0) (hf : jFit me me' = true) (hc : jCat st = true) (hk : k0 < jK) (ho : j_shp k0 = .inr (.inr ci)) (hcl : (jCl[ci]?).map (fun q => q.1) = some me'.1.cls) (hok : jOk E me' [jRF E k0] H (jQi P)) (k : ∀ x H', P x H' → jWP E me Q n lv (.int (jI x) :: st) H') : jWP E me Q pc lv (jRF E k0 :: st) H := by
  subst hn
  exact j_callV (As := []) (st := st) hd hl.1 hl.2 hf hc hk ho hcl rfl rfl hok (fun r H' ⟨x, e, q⟩ => by subst e; exact k x H' q)
theorem jV1i (n : Nat) (hn : pc + 3 = n) {me' : jM} {ix k0 ci : Nat} {v0 : Value} (hd : decode me.2.1 pc = .ok (.invokevirtual ix, 3)) (hl : jLv me.1.cls ix me' 1) (hf : jFit me me' = true) (hc : jCat st = true) (hk : k0 < jK) (ho : j_shp k0 = .inr (.inr ci)) (hcl : (jCl[ci]?).map (fun q => q.1) = some me'.1.cls) (hok : jOk E me' [jRF E k0, v0] H (jQi P)) (k : ∀ x H', P x H' → jWP E me Q n lv (.int (jI x) :: st) H') : jWP E me Q pc lv (v0 :: jRF E k0 :: st) H := by
  subst hn
  exact j_callV (As := [v0]) (st := st) hd hl.1 hl.2 hf hc hk ho hcl rfl rfl hok (fun r H' ⟨x, e, q⟩ => by subst e; exact k x H' q)
theorem jV2i (n : Nat) (hn : pc + 3 = n) {me' : jM} {ix k0 ci : Nat} {v0 v1 : Value} (hd : decode me.2.1 pc = .ok (.invokevirtual ix, 3)) (hl : jLv me.1.cls ix me' 2) (hf : jFit me me' = true) (hc : jCat st = true) (hk : k0 < jK) (ho : j_shp k0 = .inr (.inr ci)) (hcl : (jCl[ci]?).map (fun q => q.1) = some me'.1.cls) (hok : jOk E me' [jRF E k0, v0, v1] H (jQi P)) (k : ∀ x H', P x H' → jWP E me Q n lv (.int (jI x) :: st) H') : jWP E me Q pc lv (v1 :: v0 :: jRF E k0 :: st) H := by
  subst hn
  exact j_callV (As := [v0, v1]) (st := st) hd hl.1 hl.2 hf hc hk ho hcl rfl rfl hok (fun r H' ⟨x, e, q⟩ => by subst e; exact k x H' q)
theorem jV3i (n : Nat) (hn : pc + 3 = n) {me' : jM} {ix k0 ci : Nat} {v0 v1 v2 : Value} (hd : decode me.2.1 pc = .ok (.invokevirtual ix, 3)) (hl : jLv me.1.cls ix me' 3) (hf : jFit me me' = true) (hc : jCat st = true) (hk : k0 < jK) (ho : j_shp k0 = .inr (.inr ci)) (hcl : (jCl[ci]?).map (fun q => q.1) = some me'.1.cls) (hok : jOk E me' [jRF E k0, v0, v1, v2] H (jQi P)) (k : ∀ x H', P x H' → jWP E me Q n lv (.int (jI x) :: st) H') : jWP E me Q pc lv (v2 :: v1 :: v0 :: jRF E k0 :: st) H := by
  subst hn
  exact j_callV (As := [v0, v1, v2]) (st := st) hd hl.1 hl.2 hf hc hk ho hcl rfl rfl hok (fun r H' ⟨x, e, q⟩ => by subst e; exact k x H' q)
theorem jV4i (n : Nat) (hn : pc + 3 = n) {me' : jM} {ix k0 ci : Nat} {v0 v1 v2 v3 : Value} (hd : decode me.2.1 pc = .ok (.invokevirtual ix, 3)) (hl : jLv me.1.cls ix me' 4) (hf : jFit me me' = true) (hc : jCat st = true) (hk : k0 < jK) (ho : j_shp k0 = .inr (.inr ci)) (hcl : (jCl[ci]?).map (fun q => q.1) = some me'.1.cls) (hok : jOk E me' [jRF E k0, v0, v1, v2, v3] H (jQi P)) (k : ∀ x H', P x H' → jWP E me Q n lv (.int (jI x) :: st) H') : jWP E me Q pc lv (v3 :: v2 :: v1 :: v0 :: jRF E k0 :: st) H := by
  subst hn
  exact j_callV (As := [v0, v1, v2, v3]) (st := st) hd hl.1 hl.2 hf hc hk ho hcl rfl rfl hok (fun r H' ⟨x, e, q⟩ => by subst e; exact k x H' q)
theorem jV5i (n : Nat) (hn : pc + 3 = n) {me' : jM} {ix k0 ci : Nat} {v0 v1 v2 v3 v4 : Value} (hd : decode me.2.1 pc = .ok (.invokevirtual ix, 3)) (hl : jLv me.1.cls ix me' 5) (hf : jFit me me' = true) (hc : jCat st = true) (hk : k0 < jK) (ho : j_shp k0 = .inr (.inr ci)) (hcl : (jCl[ci]?).map (fun q => q.1) = some me'.1.cls) (hok : jOk E me' [jRF E k0, v0, v1, v2, v3, v4] H (jQi P)) (k : ∀ x H', P x H' → jWP E me Q n lv (.int (jI x) :: st) H') : jWP E me Q pc lv (v4 :: v3 :: v2 :: v1 :: v0 :: jRF E k0 :: st) H := by
  subst hn
  exact j_callV (As := [v0, v1, v2, v3, v4]) (st := st) hd hl.1 hl.2 hf hc hk ho hcl rfl rfl hok (fun r H' ⟨x, e, q⟩ => by subst e; exact k x H' q)
theorem jS1l (n : Nat) (hn : pc + 3 = n) {me' : jM} {ix : Nat} {v0 : Value} (hd : decode me.2.1 pc = .ok (.invokestatic ix, 3)) (hl : jLs me.1.cls ix me' 1) (hf : jFit me me' = true) (hc : jCat st = true) (hok : jOk E me' [v0] H (jQl P)) (k : ∀ x H', P x H' → jWP E me Q n lv (.long (jL x) :: st) H') : jWP E me Q pc lv (v0 :: st) H := by
  subst hn
  exact j_callS (vs := [v0]) (st := st) hd hl.1 hl.2 hf hc rfl rfl hok (fun r H' ⟨x, e, q⟩ => by subst e; exact k x H' q)
theorem jS2l (n : Nat) (hn : pc + 3 = n) {me' : jM} {ix : Nat} {v0 v1 : Value} (hd : decode me.2.1 pc = .ok (.invokestatic ix, 3)) (hl : jLs me.1.cls ix me' 2) (hf : jFit me me' = true) (hc : jCat st = true) (hok : jOk E me' [v0, v1] H (jQl P)) (k : ∀ x H', P x H' → jWP E me Q n lv (.long (jL x) :: st) H') : jWP E me Q pc lv (v1 :: v0 :: st) H := by
  subst hn
  exact j_callS (vs := [v0, v1]) (st := st) hd hl.1 hl.2 hf hc rfl rfl hok (fun r H' ⟨x, e, q⟩ => by subst e; exact k x H' q)
theorem jS3l (n : Nat) (hn : pc + 3 = n) {me' : jM} {ix : Nat} {v0 v1 v2 : Value} (hd : decode me.2.1 pc = .ok (.invokestatic ix, 3)) (hl : jLs me.1.cls ix me' 3) (hf : jFit me me' = true) (hc : jCat st = true) (hok : jOk E me' [v0, v1, v2] H (jQl P)) (k : ∀ x H', P x H' → jWP E me Q n lv (.long (jL x) :: st) H') : jWP E me Q pc lv (v2 :: v1 :: v0 :: st) H := by
  subst hn
  exact j_callS (vs := [v0, v1, v2]) (st := st) hd hl.1 hl.2 hf hc rfl rfl hok (fun r H' ⟨x, e, q⟩ => by subst e; exact k x H' q)
theorem jS4l (n : Nat) (hn : pc + 3 = n) {me' : jM} {ix : Nat} {v0 v1 v2 v3 : Value} (hd : decode me.2.1 pc = .ok (.invokestatic ix, 3)) (hl : jLs me.1.cls ix me' 4) (hf : jFit me me' = true) (hc : jCat st = true) (hok : jOk E me' [v0, v1, v2, v3] H (jQl P)) (k : ∀ x H', P x H' → jWP E me Q n lv (.long (jL x) :: st) H') : jWP E me Q pc lv (v3 :: v2 :: v1 :: v0 :: st) H := by
  subst hn
  exact j_callS (vs := [v0, v1, v2, v3]) (st := st) hd hl.1 hl.2 hf hc rfl rfl hok (fun r H' ⟨x, e, q⟩ => by subst e; exact k x H' q)
theorem jS5l (n : Nat) (hn : pc + 3 = n) {me' : jM} {ix : Nat} {v0 v1 v2 v3 v4 : Value} (hd : decode me.2.1 pc = .ok (.invokestatic ix, 3)) (hl : jLs me.1.cls ix me' 5) (hf : jFit me me' = true) (hc : jCat st = true) (hok : jOk E me' [v0, v1, v2, v3, v4] H (jQl P)) (k : ∀ x H', P x H' → jWP E me Q n lv (.long (jL x) :: st) H') : jWP E me Q pc lv (v4 :: v3 :: v2 :: v1 :: v0 :: st) H := by
  subst hn
  exact j_callS (vs := [v0, v1, v2, v3, v4]) (st := st) hd hl.1 hl.2 hf hc rfl rfl hok (fun r H' ⟨x, e, q⟩ => by subst e; exact k x H' q)
theorem jV0l (n : Nat) (hn : pc + 3 = n) {me' : jM} {ix k0 ci : Nat} (hd : decode me.2.1 pc = .ok (.invokevirtual ix, 3)) (hl : jLv me.1.cls ix me' 0) (hf : jFit me me' = true) (hc : jCat st = true) (hk : k0 < jK) (ho : j_shp k0 = .inr (.inr ci)) (hcl : (jCl[ci]?).map (fun q => q.1) = some me'.1.cls) (hok : jOk E me' [jRF E k0] H (jQl P)) (k : ∀ x H', P x H' → jWP E me Q n lv (.long (jL x) :: st) H') : jWP E me Q pc lv (jRF E k0 :: st) H := by
  subst hn
  exact j_callV (As := []) (st := st) hd hl.1 hl.2 hf hc hk ho hcl rfl rfl hok (fun r H' ⟨x, e, q⟩ => by subst e; exact k x H' q)
theorem jV1l (n : Nat) (hn : pc + 3 = n) {me' : jM} {ix k0 ci : Nat} {v0 : Value} (hd : decode me.2.1 pc = .ok (.invokevirtual ix, 3)) (hl : jLv me.1.cls ix me' 1) (hf : jFit me me' = true) (hc : jCat st = true) (hk : k0 < jK) (ho : j_shp k0 = .inr (.inr ci)) (hcl : (jCl[ci]?).map (fun q => q.1) = some me'.1.cls) (hok : jOk E me' [jRF E k0, v0] H (jQl P)) (k : ∀ x H', P x H' → jWP E me Q n lv (.long (jL x) :: st) H') : jWP E me Q pc lv (v0 :: jRF E k0 :: st) H := by
  subst hn
  exact j_callV (As := [v0]) (st := st) hd hl.1 hl.2 hf hc hk ho hcl rfl rfl hok (fun r H' ⟨x, e, q⟩ => by subst e; exact k x H' q)
theorem jV2l (n : Nat) (hn : pc + 3 = n) {me' : jM} {ix k0 ci : Nat} {v0 v1 : Value} (hd : decode me.2.1 pc = .ok (.invokevirtual ix, 3)) (hl : jLv me.1.cls ix me' 2) (hf : jFit me me' = true) (hc : jCat st = true) (hk : k0 < jK) (ho : j_shp k0 = .inr (.inr ci)) (hcl : (jCl[ci]?).map (fun q => q.1) = some me'.1.cls) (hok : jOk E me' [jRF E k0, v0, v1] H (jQl P)) (k : ∀ x H', P x H' → jWP E me Q n lv (.long (jL x) :: st) H') : jWP E me Q pc lv (v1 :: v0 :: jRF E k0 :: st) H := by
  subst hn
  exact j_callV (As := [v0, v1]) (st := st) hd hl.1 hl.2 hf hc hk ho hcl rfl rfl hok (fun r H' ⟨x, e, q⟩ => by subst e; exact k x H' q)
theorem jV3l (n : Nat) (hn : pc + 3 = n) {me' : jM} {ix k0 ci : Nat} {v0 v1 v2 : Value} (hd : decode me.2.1 pc = .ok (.invokevirtual ix, 3)) (hl : jLv me.1.cls ix me' 3) (hf : jFit me me' = true) (hc : jCat st = true) (hk : k0 < jK) (ho : j_shp k0 = .inr (.inr ci)) (hcl : (jCl[ci]?).map (fun q => q.1) = some me'.1.cls) (hok : jOk E me' [jRF E k0, v0, v1, v2] H (jQl P)) (k : ∀ x H', P x H' → jWP E me Q n lv (.long (jL x) :: st) H') : jWP E me Q pc lv (v2 :: v1 :: v0 :: jRF E k0 :: st) H := by
  subst hn
  exact j_callV (As := [v0, v1, v2]) (st := st) hd hl.1 hl.2 hf hc hk ho hcl rfl rfl hok (fun r H' ⟨x, e, q⟩ => by subst e; exact k x H' q)
theorem jV4l (n : Nat) (hn : pc + 3 = n) {me' : jM} {ix k0 ci : Nat} {v0 v1 v2 v3 : Value} (hd : decode me.2.1 pc = .ok (.invokevirtual ix, 3)) (hl : jLv me.1.cls ix me' 4) (hf : jFit me me' = true) (hc : jCat st = true) (hk : k0 < jK) (ho : j_shp k0 = .inr (.inr ci)) (hcl : (jCl[ci]?).map (fun q => q.1) = some me'.1.cls) (hok : jOk E me' [jRF E k0, v0, v1, v2, v3] H (jQl P)) (k : ∀ x H', P x H' → jWP E me Q n lv (.long (jL x) :: st) H') : jWP E me Q pc lv (v3 :: v2 :: v1 :: v0 :: jRF E k0 :: st) H := by
  subst hn
  exact j_callV (As := [v0, v1, v2, v3]) (st := st) hd hl.1 hl.2 hf hc hk ho hcl rfl rfl hok (fun r H' ⟨x, e, q⟩ => by subst e; exact k x H' q)
theorem jV5l (n : Nat) (hn : pc + 3 = n) {me' : jM} {ix k0 ci : Nat} {v0 v1 v2 v3 v4 : Value} (hd : decode me.2.1 pc = .ok (.invokevirtual ix, 3)) (hl : jLv me.1.cls ix me' 5) (hf : jFit me me' = true) (hc : jCat st = true) (hk : k0 < jK) (ho : j_shp k0 = .inr (.inr ci)) (hcl : (jCl[ci]?).map (fun q => q.1) = some me'.1.cls) (hok : jOk E me' [jRF E k0, v0, v1, v2, v3, v4] H (jQl P)) (k : ∀ x H', P x H' → jWP E me Q n lv (.long (jL x) :: st) H') : jWP E me Q pc lv (v4 :: v3 :: v2 :: v1 :: v0 :: jRF E k0 :: st) H := by
  subst hn
  exact j_callV (As := [v0, v1, v2, v3, v4]) (st := st) hd hl.1 hl.2 hf hc hk ho hcl rfl rfl hok (fun r H' ⟨x, e, q⟩ => by subst e; exact k x H' q)
theorem jS1v (n : Nat) (hn : pc + 3 = n) {me' : jM} {ix : Nat} {v0 : Value} (hd : decode me.2.1 pc = .ok (.invokestatic ix, 3)) (hl : jLs me.1.cls ix me' 1) (hf : jFit me me' = true) (hc : jCat st = true) (hok : jOk E me' [v0] H (jQv Pv)) (k : ∀ H', Pv H' → jWP E me Q n lv st H') : jWP E me Q pc lv (v0 :: st) H := by
  subst hn
  exact j_callS (vs := [v0]) (st := st) hd hl.1 hl.2 hf hc rfl rfl hok (fun r H' ⟨e, q⟩ => by subst e; exact k H' q)
theorem jS2v (n : Nat) (hn : pc + 3 = n) {me' : jM} {ix : Nat} {v0 v1 : Value} (hd : decode me.2.1 pc = .ok (.invokestatic ix, 3)) (hl : jLs me.1.cls ix me' 2) (hf : jFit me me' = true) (hc : jCat st = true) (hok : jOk E me' [v0, v1] H (jQv Pv)) (k : ∀ H', Pv H' → jWP E me Q n lv st H') : jWP E me Q pc lv (v1 :: v0 :: st) H := by
  subst hn
  exact j_callS (vs := [v0, v1]) (st := st) hd hl.1 hl.2 hf hc rfl rfl hok (fun r H' ⟨e, q⟩ => by subst e; exact k H' q)
theorem jS3v (n : Nat) (hn : pc + 3 = n) {me' : jM} {ix : Nat} {v0 v1 v2 : Value} (hd : decode me.2.1 pc = .ok (.invokestatic ix, 3)) (hl : jLs me.1.cls ix me' 3) (hf : jFit me me' = true) (hc : jCat st = true) (hok : jOk E me' [v0, v1, v2] H (jQv Pv)) (k : ∀ H', Pv H' → jWP E me Q n lv st H') : jWP E me Q pc lv (v2 :: v1 :: v0 :: st) H := by
  subst hn
  exact j_callS (vs := [v0, v1, v2]) (st := st) hd hl.1 hl.2 hf hc rfl rfl hok (fun r H' ⟨e, q⟩ => by subst e; exact k H' q)
theorem jS4v (n : Nat) (hn : pc + 3 = n) {me' : jM} {ix : Nat} {v0 v1 v2 v3 : Value} (hd : decode me.2.1 pc = .ok (.invokestatic ix, 3)) (hl : jLs me.1.cls ix me' 4) (hf : jFit me me' = true) (hc : jCat st = true) (hok : jOk E me' [v0, v1, v2, v3] H (jQv Pv)) (k : ∀ H', Pv H' → jWP E me Q n lv st H') : jWP E me Q pc lv (v3 :: v2 :: v1 :: v0 :: st) H := by
  subst hn
  exact j_callS (vs := [v0, v1, v2, v3]) (st := st) hd hl.1 hl.2 hf hc rfl rfl hok (fun r H' ⟨e, q⟩ => by subst e; exact k H' q)
theorem jS5v (n : Nat) (hn : pc + 3 = n) {me' : jM} {ix : Nat} {v0 v1 v2 v3 v4 : Value} (hd : decode me.2.1 pc = .ok (.invokestatic ix, 3)) (hl : jLs me.1.cls ix me' 5) (hf : jFit me me' = true) (hc : jCat st = true) (hok : jOk E me' [v0, v1, v2, v3, v4] H (jQv Pv)) (k : ∀ H', Pv H' → jWP E me Q n lv st H') : jWP E me Q pc lv (v4 :: v3 :: v2 :: v1 :: v0 :: st) H := by
  subst hn
  exact j_callS (vs := [v0, v1, v2, v3, v4]) (st := st) hd hl.1 hl.2 hf hc rfl rfl hok (fun r H' ⟨e, q⟩ => by subst e; exact k H' q)
theorem jV0v (n : Nat) (hn : pc + 3 = n) {me' : jM} {ix k0 ci : Nat} (hd : decode me.2.1 pc = .ok (.invokevirtual ix, 3)) (hl : jLv me.1.cls ix me' 0) (hf : jFit me me' = true) (hc : jCat st = true) (hk : k0 < jK) (ho : j_shp k0 = .inr (.inr ci)) (hcl : (jCl[ci]?).map (fun q => q.1) = some me'.1.cls) (hok : jOk E me' [jRF E k0] H (jQv Pv)) (k : ∀ H', Pv H' → jWP E me Q n lv st H') : jWP E me Q pc lv (jRF E k0 :: st) H := by
  subst hn
  exact j_callV (As := []) (st := st) hd hl.1 hl.2 hf hc hk ho hcl rfl rfl hok (fun r H' ⟨e, q⟩ => by subst e; exact k H' q)
theorem jV1v (n : Nat) (hn : pc + 3 = n) {me' : jM} {ix k0 ci : Nat} {v0 : Value} (hd : decode me.2.1 pc = .ok (.invokevirtual ix, 3)) (hl : jLv me.1.cls ix me' 1) (hf : jFit me me' = true) (hc : jCat st = true) (hk : k0 < jK) (ho : j_shp k0 = .inr (.inr ci)) (hcl : (jCl[ci]?).map (fun q => q.1) = some me'.1.cls) (hok : jOk E me' [jRF E k0, v0] H (jQv Pv)) (k : ∀ H', Pv H' → jWP E me Q n lv st H') : jWP E me Q pc lv (v0 :: jRF E k0 :: st) H := by
  subst hn
  exact j_callV (As := [v0]) (st := st) hd hl.1 hl.2 hf hc hk ho hcl rfl rfl hok (fun r H' ⟨e, q⟩ => by subst e; exact k H' q)
theorem jV2v (n : Nat) (hn : pc + 3 = n) {me' : jM} {ix k0 ci : Nat} {v0 v1 : Value} (hd : decode me.2.1 pc = .ok (.invokevirtual ix, 3)) (hl : jLv me.1.cls ix me' 2) (hf : jFit me me' = true) (hc : jCat st = true) (hk : k0 < jK) (ho : j_shp k0 = .inr (.inr ci)) (hcl : (jCl[ci]?).map (fun q => q.1) = some me'.1.cls) (hok : jOk E me' [jRF E k0, v0, v1] H (jQv Pv)) (k : ∀ H', Pv H' → jWP E me Q n lv st H') : jWP E me Q pc lv (v1 :: v0 :: jRF E k0 :: st) H := by
  subst hn
  exact j_callV (As := [v0, v1]) (st := st) hd hl.1 hl.2 hf hc hk ho hcl rfl rfl hok (fun r H' ⟨e, q⟩ => by subst e; exact k H' q)
theorem jV3v (n : Nat) (hn : pc + 3 = n) {me' : jM} {ix k0 ci : Nat} {v0 v1 v2 : Value} (hd : decode me.2.1 pc = .ok (.invokevirtual ix, 3)) (hl : jLv me.1.cls ix me' 3) (hf : jFit me me' = true) (hc : jCat st = true) (hk : k0 < jK) (ho : j_shp k0 = .inr (.inr ci)) (hcl : (jCl[ci]?).map (fun q => q.1) = some me'.1.cls) (hok : jOk E me' [jRF E k0, v0, v1, v2] H (jQv Pv)) (k : ∀ H', Pv H' → jWP E me Q n lv st H') : jWP E me Q pc lv (v2 :: v1 :: v0 :: jRF E k0 :: st) H := by
  subst hn
  exact j_callV (As := [v0, v1, v2]) (st := st) hd hl.1 hl.2 hf hc hk ho hcl rfl rfl hok (fun r H' ⟨e, q⟩ => by subst e; exact k H' q)
theorem jV4v (n : Nat) (hn : pc + 3 = n) {me' : jM} {ix k0 ci : Nat} {v0 v1 v2 v3 : Value} (hd : decode me.2.1 pc = .ok (.invokevirtual ix, 3)) (hl : jLv me.1.cls ix me' 4) (hf : jFit me me' = true) (hc : jCat st = true) (hk : k0 < jK) (ho : j_shp k0 = .inr (.inr ci)) (hcl : (jCl[ci]?).map (fun q => q.1) = some me'.1.cls) (hok : jOk E me' [jRF E k0, v0, v1, v2, v3] H (jQv Pv)) (k : ∀ H', Pv H' → jWP E me Q n lv st H') : jWP E me Q pc lv (v3 :: v2 :: v1 :: v0 :: jRF E k0 :: st) H := by
  subst hn
  exact j_callV (As := [v0, v1, v2, v3]) (st := st) hd hl.1 hl.2 hf hc hk ho hcl rfl rfl hok (fun r H' ⟨e, q⟩ => by subst e; exact k H' q)
theorem jV5v (n : Nat) (hn : pc + 3 = n) {me' : jM} {ix k0 ci : Nat} {v0 v1 v2 v3 v4 : Value} (hd : decode me.2.1 pc = .ok (.invokevirtual ix, 3)) (hl : jLv me.1.cls ix me' 5) (hf : jFit me me' = true) (hc : jCat st = true) (hk : k0 < jK) (ho : j_shp k0 = .inr (.inr ci)) (hcl : (jCl[ci]?).map (fun q => q.1) = some me'.1.cls) (hok : jOk E me' [jRF E k0, v0, v1, v2, v3, v4] H (jQv Pv)) (k : ∀ H', Pv H' → jWP E me Q n lv st H') : jWP E me Q pc lv (v4 :: v3 :: v2 :: v1 :: v0 :: jRF E k0 :: st) H := by
  subst hn
  exact j_callV (As := [v0, v1, v2, v3, v4]) (st := st) hd hl.1 hl.2 hf hc hk ho hcl rfl rfl hok (fun r H' ⟨e, q⟩ => by subst e; exact k H' q)
end JTYP
