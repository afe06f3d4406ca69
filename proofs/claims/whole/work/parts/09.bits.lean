/-! ===== bit rows without conditions: what they push is named ===== -/
def jb (x : Int32) : Int := x.toInt
theorem jb_r (x : Int32) : -2147483648 ≤ jb x ∧ jb x ≤ 2147483647 := jI_rng x
theorem jb_I (x : Int32) : jI (jb x) = x := jI_of x
def jb64 (x : Int64) : Int := x.toInt
theorem jb_r64 (x : Int64) : -9223372036854775808 ≤ jb64 x ∧ jb64 x ≤ 9223372036854775807 := jL_rng x
theorem jb_L (x : Int64) : jL (jb64 x) = x := jL_of x
abbrev bAnd (a b : Int) : Int := jb (jI a &&& jI b)
abbrev bOr (a b : Int) : Int := jb (jI a ||| jI b)
abbrev bXor (a b : Int) : Int := jb (jI a ^^^ jI b)
abbrev bShl (a b : Int) : Int := jb (jI a <<< (jI b &&& 31))
abbrev bShr (a b : Int) : Int := jb (jI a >>> (jI b &&& 31))
abbrev bUshr (a b : Int) : Int := jb ((jI a).toUInt32 >>> ((jI b).toUInt32 &&& Int32.toUInt32 31)).toInt32
abbrev bByte (a : Int) : Int := jb (jI a).toInt8.toInt32
abbrev bShort (a : Int) : Int := jb (jI a).toInt16.toInt32
abbrev bChar (a : Int) : Int := jb ((jI a).toUInt32 % 65536).toInt32
abbrev bLshl (a b : Int) : Int := jb64 (jL a <<< ((jI b).toInt64 &&& 63))
abbrev iDiv (a b : Int) : Int := jb (jI a / jI b)
abbrev iRem (a b : Int) : Int := jb (jI a - jI a / jI b * jI b)
abbrev lDiv (a b : Int) : Int := jb64 (jL a / jL b)
abbrev lRem (a b : Int) : Int := jb64 (jL a - jL a / jL b * jL b)
section JBITS
variable {E : jE} {me : jM} {Q : Option Value → jH → Prop} {pc : Nat} {lv : List (Option Value)} {st : List Value} {H : jH}
theorem k_iand (n : Nat) (hn : pc + 1 = n) {a b : Int} (hd : decode me.2.1 pc = .ok (.iand, 1)) (k : jWP E me Q n lv (.int (jI (bAnd a b)) :: st) H) : jWP E me Q pc lv (.int (jI b) :: .int (jI a) :: st) H := j_iand n hn _ (fun _ => (jb_I _).symm) hd k
theorem k_ior (n : Nat) (hn : pc + 1 = n) {a b : Int} (hd : decode me.2.1 pc = .ok (.ior, 1)) (k : jWP E me Q n lv (.int (jI (bOr a b)) :: st) H) : jWP E me Q pc lv (.int (jI b) :: .int (jI a) :: st) H := j_ior n hn _ (fun _ => (jb_I _).symm) hd k
theorem k_ixor (n : Nat) (hn : pc + 1 = n) {a b : Int} (hd : decode me.2.1 pc = .ok (.ixor, 1)) (k : jWP E me Q n lv (.int (jI (bXor a b)) :: st) H) : jWP E me Q pc lv (.int (jI b) :: .int (jI a) :: st) H := j_ixor n hn _ (fun _ => (jb_I _).symm) hd k
theorem k_ishl (n : Nat) (hn : pc + 1 = n) {a b : Int} (hd : decode me.2.1 pc = .ok (.ishl, 1)) (k : jWP E me Q n lv (.int (jI (bShl a b)) :: st) H) : jWP E me Q pc lv (.int (jI b) :: .int (jI a) :: st) H := j_ishl n hn _ (fun _ => (jb_I _).symm) hd k
theorem k_ishr (n : Nat) (hn : pc + 1 = n) {a b : Int} (hd : decode me.2.1 pc = .ok (.ishr, 1)) (k : jWP E me Q n lv (.int (jI (bShr a b)) :: st) H) : jWP E me Q pc lv (.int (jI b) :: .int (jI a) :: st) H := j_ishr n hn _ (fun _ => (jb_I _).symm) hd k
theorem k_iushr (n : Nat) (hn : pc + 1 = n) {a b : Int} (hd : decode me.2.1 pc = .ok (.iushr, 1)) (k : jWP E me Q n lv (.int (jI (bUshr a b)) :: st) H) : jWP E me Q pc lv (.int (jI b) :: .int (jI a) :: st) H := j_iushr n hn _ (fun _ => (jb_I _).symm) hd k
theorem k_lshl (n : Nat) (hn : pc + 1 = n) {a b : Int} (hd : decode me.2.1 pc = .ok (.lshl, 1)) (k : jWP E me Q n lv (.long (jL (bLshl a b)) :: st) H) : jWP E me Q pc lv (.int (jI b) :: .long (jL a) :: st) H := j_lshl n hn _ (fun _ => (jb_L _).symm) hd k
theorem k_i2b (n : Nat) (hn : pc + 1 = n) {a : Int} (hd : decode me.2.1 pc = .ok (.i2b, 1)) (k : jWP E me Q n lv (.int (jI (bByte a)) :: st) H) : jWP E me Q pc lv (.int (jI a) :: st) H := j_i2b n hn _ (fun _ => (jb_I _).symm) hd k
theorem k_i2s (n : Nat) (hn : pc + 1 = n) {a : Int} (hd : decode me.2.1 pc = .ok (.i2s, 1)) (k : jWP E me Q n lv (.int (jI (bShort a)) :: st) H) : jWP E me Q pc lv (.int (jI a) :: st) H := j_i2s n hn _ (fun _ => (jb_I _).symm) hd k
theorem k_i2c (n : Nat) (hn : pc + 1 = n) {a : Int} (hd : decode me.2.1 pc = .ok (.i2c, 1)) (k : jWP E me Q n lv (.int (jI (bChar a)) :: st) H) : jWP E me Q pc lv (.int (jI a) :: st) H := j_i2c n hn _ (fun _ => (jb_I _).symm) hd k
theorem k_idiv (n : Nat) (hn : pc + 1 = n) {a b : Int} (h0 : b ≠ 0) (hb : jR H → -2147483648 ≤ b ∧ b ≤ 2147483647) (hd : decode me.2.1 pc = .ok (.idiv, 1)) (k : jWP E me Q n lv (.int (jI (iDiv a b)) :: st) H) : jWP E me Q pc lv (.int (jI b) :: .int (jI a) :: st) H := j_idiv n hn _ (fun hR => by rw [← jI_0, jI_eq (hb hR) (by omega)]; exact h0) (fun _ => (jb_I _).symm) hd k
theorem k_irem (n : Nat) (hn : pc + 1 = n) {a b : Int} (h0 : b ≠ 0) (hb : jR H → -2147483648 ≤ b ∧ b ≤ 2147483647) (hd : decode me.2.1 pc = .ok (.irem, 1)) (k : jWP E me Q n lv (.int (jI (iRem a b)) :: st) H) : jWP E me Q pc lv (.int (jI b) :: .int (jI a) :: st) H := j_irem n hn _ (fun hR => by rw [← jI_0, jI_eq (hb hR) (by omega)]; exact h0) (fun _ => (jb_I _).symm) hd k
theorem k_ldiv (n : Nat) (hn : pc + 1 = n) {a b : Int} (h0 : b ≠ 0) (hb : jR H → -9223372036854775808 ≤ b ∧ b ≤ 9223372036854775807) (hd : decode me.2.1 pc = .ok (.ldiv, 1)) (k : jWP E me Q n lv (.long (jL (lDiv a b)) :: st) H) : jWP E me Q pc lv (.long (jL b) :: .long (jL a) :: st) H := j_ldiv n hn _ (fun hR => by rw [show (0 : Int64) = jL 0 from rfl, jL_eq (hb hR) (by omega)]; exact h0) (fun _ => (jb_L _).symm) hd k
theorem k_lrem (n : Nat) (hn : pc + 1 = n) {a b : Int} (h0 : b ≠ 0) (hb : jR H → -9223372036854775808 ≤ b ∧ b ≤ 9223372036854775807) (hd : decode me.2.1 pc = .ok (.lrem, 1)) (k : jWP E me Q n lv (.long (jL (lRem a b)) :: st) H) : jWP E me Q pc lv (.long (jL b) :: .long (jL a) :: st) H := j_lrem n hn _ (fun hR => by rw [show (0 : Int64) = jL 0 from rfl, jL_eq (hb hR) (by omega)]; exact h0) (fun _ => (jb_L _).symm) hd k
end JBITS
theorem jI_eqb {a b : Int} (h : jI a = jI b) (hb : -2147483648 ≤ b ∧ b ≤ 2147483647) : jb (jI a) = b := by rw [h]; exact jI_toInt hb
theorem iDiv_n {a b : Int} (ha : 0 ≤ a ∧ a ≤ 2147483647) (hb : 0 < b ∧ b ≤ 2147483647) : iDiv a b = a / b := by
  obtain ⟨x, rfl⟩ := Int.eq_ofNat_of_zero_le ha.1
  obtain ⟨y, rfl⟩ := Int.eq_ofNat_of_zero_le (show 0 ≤ b by omega)
  have e1 : jI (x : Int) = nI x := Int32.ofInt_eq_ofNat
  have e2 : jI (y : Int) = nI y := Int32.ofInt_eq_ofNat
  show (jI (x : Int) / jI (y : Int)).toInt = _
  rw [e1, e2, pk_div (by omega) (by omega) (by omega), nI_toInt (by have := Nat.div_le_self x y; omega)]
  rfl
theorem iRem_n {a b : Int} (ha : 0 ≤ a ∧ a ≤ 2147483647) (hb : 0 < b ∧ b ≤ 2147483647) : iRem a b = a % b := by
  obtain ⟨x, rfl⟩ := Int.eq_ofNat_of_zero_le ha.1
  obtain ⟨y, rfl⟩ := Int.eq_ofNat_of_zero_le (show 0 ≤ b by omega)
  have e1 : jI (x : Int) = nI x := Int32.ofInt_eq_ofNat
  have e2 : jI (y : Int) = nI y := Int32.ofInt_eq_ofNat
  show (jI (x : Int) - jI (x : Int) / jI (y : Int) * jI (y : Int)).toInt = _
  rw [e1, e2, pk_rem (by omega) (by omega) (by omega), nI_toInt (by have := Nat.mod_le x y; omega)]
  rfl
/-! ===== more rows ===== -/
theorem jU_k {H : jH} {k a : Nat} {i v b : Int} (h : a ≠ k) : jU H k i v a b = H a b := by unfold jU; rw [if_neg (fun q => h q.1)]
theorem jU_i {H : jH} {k : Nat} {i v b : Int} (h : b ≠ i) : jU H k i v k b = H k b := by unfold jU; rw [if_neg (fun q => h q.2)]
theorem jU_s {H : jH} {k : Nat} {i v : Int} : jU H k i v k i = v := by unfold jU; rw [if_pos ⟨rfl, rfl⟩]
theorem jUp (lo N : Int) (P : Int → Prop) (hN : P N) (hs : ∀ i, lo ≤ i → i < N → P (i + 1) → P i) : ∀ i, lo ≤ i → i ≤ N → P i := by
  intro i h1 h2
  obtain ⟨m, hm⟩ : ∃ m : Nat, (m : Int) = N - i := ⟨(N - i).toNat, by omega⟩
  induction m generalizing i with
  | zero => rw [show i = N by omega]; exact hN
  | succ m ih => exact hs i h1 (by omega) (ih (i + 1) (by omega) (by omega) (by omega))
def jFill (H : jH) (k : Nat) (n v : Int) : jH := fun a b => if a = k ∧ 0 ≤ b ∧ b < n then v else H a b
theorem jFill_0 (H : jH) (k : Nat) (v : Int) : jFill H k 0 v = H := by
  funext a b
  unfold jFill
  rw [if_neg (fun q => by omega)]
theorem jFill_s (H : jH) (k : Nat) (n v : Int) (h : 0 ≤ n) : jU (jFill H k n v) k n v = jFill H k (n + 1) v := by
  funext a b
  unfold jFill jU
  dsimp only
  by_cases h1 : a = k ∧ b = n
  · rw [if_pos h1, if_pos ⟨h1.1, by omega, by omega⟩]
  · rw [if_neg h1]
    by_cases h2 : a = k ∧ 0 ≤ b ∧ b < n
    · rw [if_pos h2, if_pos ⟨h2.1, h2.2.1, by omega⟩]
    · rw [if_neg h2, if_neg (fun q => by
        by_cases h3 : b = n
        · exact h1 ⟨q.1, h3⟩
        · exact h2 ⟨q.1, q.2.1, by omega⟩)]
theorem jFill_k {H : jH} {k a : Nat} {n v b : Int} (h : a ≠ k) : jFill H k n v a b = H a b := by unfold jFill; rw [if_neg (fun q => h q.1)]
theorem jFill_i {H : jH} {k : Nat} {n v b : Int} (h : 0 ≤ b) (h2 : b < n) : jFill H k n v k b = v := by unfold jFill; rw [if_pos ⟨rfl, h, h2⟩]
theorem jOk.rng {E : jE} {me : jM} {vs : List Value} {H : jH} {Q : Option Value → jH → Prop} (h : jR H → jOk E me vs H Q) : jOk E me vs H Q := by
  intro p e ha hc hk s m args below hf hpre hP hK
  exact h hP.2.1.2 p e ha hc hk s m args below hf hpre hP hK
section JMORE
variable {E : jE} {me : jM} {Q : Option Value → jH → Prop} {pc : Nat} {lv : List (Option Value)} {st : List Value} {H : jH} {P : Int → jH → Prop} {Pv : jH → Prop}
theorem jWP.rng (h : jR H → jWP E me Q pc lv st H) : jWP E me Q pc lv st H := fun p e s m args below meth c heap locs ls F S X V Y => h X.2 p e s m args below meth c heap locs ls F S X V Y
theorem g_geti (n : Nat) (hn : pc + 3 = n) {ix ci k : Nat} (j : Nat) (ji : Int) (hj : (j : Int) = ji) (hl : jFL me.1.cls ix ci j) (hd : decode me.2.1 pc = .ok (.getfield ix, 3)) (hk : k < jK) (ho : j_shp k = .inr (.inr ci)) (hr : (j_refL.getD k [])[j]? = some none) (kk : jWP E me Q n lv (.int (jI (H k ji)) :: st) H) : jWP E me Q pc lv (jRF E k :: st) H := by
  subst hj
  exact j_geti n hn j hl hd hk ho hr kk
theorem g_puti (n : Nat) (hn : pc + 3 = n) {ix ci k : Nat} (j : Nat) (ji : Int) (hj : (j : Int) = ji) {x : Int} (hl : jFL me.1.cls ix ci j) (hf : jFT ci j .int) (hd : decode me.2.1 pc = .ok (.putfield ix, 3)) (hk : k < jK) (ho : j_shp k = .inr (.inr ci)) (hr : (j_refL.getD k [])[j]? = some none) (hx : jR H → -2147483648 ≤ x ∧ x ≤ 2147483647) (kk : jWP E me Q n lv st (jU H k ji x)) : jWP E me Q pc lv (.int (jI x) :: jRF E k :: st) H := by
  subst hj
  exact j_puti n hn j hl hf hd hk ho hr hx kk
theorem g_putz (n : Nat) (hn : pc + 3 = n) {ix ci k : Nat} (j : Nat) (ji : Int) (hj : (j : Int) = ji) {x : Int} (hl : jFL me.1.cls ix ci j) (hf : jFT ci j .boolean) (hd : decode me.2.1 pc = .ok (.putfield ix, 3)) (hk : k < jK) (ho : j_shp k = .inr (.inr ci)) (hr : (j_refL.getD k [])[j]? = some none) (hx : x = 0 ∨ x = 1) (kk : jWP E me Q n lv st (jU H k ji x)) : jWP E me Q pc lv (.int (jI x) :: jRF E k :: st) H := by
  subst hj
  exact j_putz n hn j hl hf hd hk ho hr hx kk
theorem g_alen (n : Nat) (hn : pc + 1 = n) {k N : Nat} (Ni : Int) (hN : (N : Int) = Ni) (hd : decode me.2.1 pc = .ok (.arraylength, 1)) (hk : k < jK) (ho : j_shp k = .inl N) (kk : jWP E me Q n lv (.int (jI Ni) :: st) H) : jWP E me Q pc lv (jRF E k :: st) H := by
  subst hN
  exact j_alen n hn hd hk ho kk

theorem jN1i (n : Nat) (hn : pc + 3 = n) {me' : jM} {ix : Nat} {host : String} {v0 : Value} (hd : decode me.2.1 pc = .ok (.invokestatic ix, 3)) (hl : (Cond.initialized me'.1.cls ∈ jW ∧ Cond.code me'.1 me'.2.1 me'.2.2.1 me'.2.2.2.1 ∈ jW ∧ (me'.1.cls ≠ "java/lang/invoke/MethodHandle" ∧ me'.1.cls ≠ "java/lang/invoke/VarHandle" ∧ (parseMethodDescriptor me'.1.desc).map (fun d => d.parameters.length) = some 1)) ∧ Cond.static me'.1 ∈ jW) (hN : ∀ s, jOld E s → va_Nw (.methodLinkNest me.1.cls ix me'.1 host) s) (hf : jFit me me' = true) (hc : jCat st = true) (hok : jOk E me' [v0] H (jQi P)) (k : ∀ x H', P x H' → jWP E me Q n lv (.int (jI x) :: st) H') : jWP E me Q pc lv (v0 :: st) H := by
  subst hn
  exact j_callSN (vs := [v0]) (st := st) hd hl.1 hN hl.2 hf hc rfl rfl hok (fun r H' ⟨x, e, q⟩ => by subst e; exact k x H' q)
theorem j_max (n : Nat) (hn : pc + 3 = n) {ix : Nat} {a b : Int} (hl : Cond.methodLink me.1.cls ix Lib.Math.max.name ∈ jW ∧ Cond.static Lib.Math.max.name ∈ jW ∧ Cond.initialized "java/lang/Math" ∈ jW ∧ Cond.code Lib.Math.max.name Lib.Math.max.code 2 (some .int) ∈ jW) (hd : decode me.2.1 pc = .ok (.invokestatic ix, 3)) (ha : jR H → -2147483648 ≤ a ∧ a ≤ 2147483647) (hb : jR H → -2147483648 ≤ b ∧ b ≤ 2147483647) (hf : 1 ≤ me.2.2.2.2.1) (hlo : (st.map fun v => v.category).sum + 13 ≤ me.2.2.2.2.2) (k : ∀ v, ((b ≤ a ∧ v = a) ∨ (a < b ∧ v = b)) → jWP E me Q n lv (.int (jI v) :: st) H) : jWP E me Q pc lv (.int (jI b) :: .int (jI a) :: st) H := by
  subst hn
  intro p e s m args below meth c heap locs ls F S X V Y
  refine va_mmax F.1 F.2.1 (F.2.2.1.trans Y.1.symm) F.2.2.2.1 (F.2.2.2.2.1 _ (List.mem_cons_of_mem _ hl.1)) (F.2.2.2.2.1 _ (List.mem_cons_of_mem _ hl.2.1)) (F.2.2.2.2.1 _ (List.mem_cons_of_mem _ hl.2.2.1)) (F.2.2.2.2.1 _ (List.mem_cons_of_mem _ hl.2.2.2)) hf hlo (Nat.le_refl _) (Nat.le_refl _) hd ?_
  by_cases h : a < b
  · rw [if_pos ((jI_lt (ha X.2) (hb X.2)).mpr h)]
    exact k b (by omega) p e s m args below meth c heap locs ls F S X V Y
  · rw [if_neg (fun q => h ((jI_lt (ha X.2) (hb X.2)).mp q))]
    exact k a (by omega) p e s m args below meth c heap locs ls F S X V Y

end JMORE
theorem mx_X4 : Cond.methodLink RX4 333 Lib.Math.max.name ∈ jW ∧ Cond.static Lib.Math.max.name ∈ jW ∧ Cond.initialized "java/lang/Math" ∈ jW ∧ Cond.code Lib.Math.max.name Lib.Math.max.code 2 (some .int) ∈ jW := ⟨jW_of (List.mem_append_right _ (List.mem_of_getElem? (l := tables_1) (i := 528) (by decide +kernel))) rfl, jW_of (List.mem_append_right _ (List.mem_of_getElem? (l := tables_1) (i := 272) (by decide +kernel))) rfl, jW_of (List.mem_append_right _ (List.mem_of_getElem? (l := tables_1) (i := 9) (by decide +kernel))) rfl, jW_of (List.mem_append_right _ (List.mem_of_getElem? (l := tables_1) (i := 273) (by decide +kernel))) rfl⟩
