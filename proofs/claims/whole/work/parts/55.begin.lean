/-! ===== from the entry to the loop ===== -/
theorem hl_X4 : Cond.initialized yX4_init.cls ∈ jW ∧ Cond.code yX4_init cX4_init 2 none ∈ jW ∧ (yX4_init.cls ≠ "java/lang/invoke/MethodHandle" ∧ yX4_init.cls ≠ "java/lang/invoke/VarHandle" ∧ (parseMethodDescriptor yX4_init.desc).map (fun d => d.parameters.length) = some 0) ∧ Cond.instanceMethod yX4_init ∈ jW := ⟨jW_of (List.mem_append_right _ (List.mem_of_getElem? (l := tables_1) (i := 1) (by decide +kernel))) rfl, jW_of (List.mem_append_right _ (List.mem_of_getElem? (l := tables_1) (i := 20) (by decide +kernel))) rfl, by decide +kernel, jW_of (List.mem_append_right _ (List.mem_of_getElem? (l := tables_1) (i := 19) (by decide +kernel))) rfl⟩
theorem lm_X4 : Cond.methodLink RL 9 yX4_init ∈ jW := jW_of (List.mem_append_right _ (List.mem_of_getElem? (l := tables_1) (i := 18) (by decide +kernel))) rfl
theorem hl_X5 : Cond.initialized yX5_init.cls ∈ jW ∧ Cond.code yX5_init cX5_init 2 none ∈ jW ∧ (yX5_init.cls ≠ "java/lang/invoke/MethodHandle" ∧ yX5_init.cls ≠ "java/lang/invoke/VarHandle" ∧ (parseMethodDescriptor yX5_init.desc).map (fun d => d.parameters.length) = some 0) ∧ Cond.instanceMethod yX5_init ∈ jW := ⟨jW_of (List.mem_append_right _ (List.mem_of_getElem? (l := tables_1) (i := 6) (by decide +kernel))) rfl, jW_of (List.mem_append_right _ (List.mem_of_getElem? (l := tables_1) (i := 674) (by decide +kernel))) rfl, by decide +kernel, jW_of (List.mem_append_right _ (List.mem_of_getElem? (l := tables_1) (i := 673) (by decide +kernel))) rfl⟩
theorem lm_X5 : Cond.methodLink RL 12 yX5_init ∈ jW := jW_of (List.mem_append_right _ (List.mem_of_getElem? (l := tables_1) (i := 672) (by decide +kernel))) rfl
set_option maxRecDepth 100000 in
set_option maxHeartbeats 4000000 in
/-- from the entry, for every script of at most 3072 ints, the law comes to its end with true -/
theorem whole_start {p : Program} {e : Env} {s : State} {m : MethodId} {below : List Frame} {meth : Method} {c : Code} (l : Launch) {b L : Nat} {xs : Nat → Int32} (hL : L ≤ 3072) (C0 : lw_At p s m meth c b L xs) : W p l e room_1 s m #[Value.ref b] below meth c s.heap [] 0 0 (lw_Z below #[Value.ref b] s) (entryFrame m ([Value.ref b] : List Value).toArray 4) := by
  obtain ⟨a78, a79, a80, o1, o2, o3, o4, o5⟩ := lw_old C0
  obtain ⟨hx, hb, hr, hml, hown, hts, hX, hbl, hlocks, hgv⟩ := id C0
  obtain ⟨k0, f0, K0⟩ := u_known (C := RX0) (T := TX0) (N := 7) hts (fun w h => jIn (inW0 w h)) (hts (.instantiable RX0 7) (List.mem_append_right _ (List.mem_of_getElem? (l := tables_1) (i := 25) (by decide +kernel))))
  obtain ⟨k1, f1, K1⟩ := u_known (C := RX1) (T := TX1) (N := 16) hts (fun w h => jIn (inW1 w h)) (hts (.instantiable RX1 16) (List.mem_append_right _ (List.mem_of_getElem? (l := tables_1) (i := 91) (by decide +kernel))))
  obtain ⟨k2, f2, K2⟩ := u_known (C := RX2) (T := TX2) (N := 4) hts (fun w h => jIn (inW2 w h)) (hts (.instantiable RX2 4) (List.mem_append_right _ (List.mem_of_getElem? (l := tables_1) (i := 152) (by decide +kernel))))
  obtain ⟨k3, f3, K3⟩ := u_known (C := RX3) (T := TX3) (N := 4) hts (fun w h => jIn (inW3 w h)) (hts (.instantiable RX3 4) (List.mem_append_right _ (List.mem_of_getElem? (l := tables_1) (i := 65) (by decide +kernel))))
  obtain ⟨k4, f4, K4⟩ := u_known (C := RX4) (T := TX4) (N := 16) hts (fun w h => jIn (inW4 w h)) (hts (.instantiable RX4 16) (List.mem_append_right _ (List.mem_of_getElem? (l := tables_1) (i := 17) (by decide +kernel))))
  obtain ⟨k5, f5, K5⟩ := u_known (C := RX5) (T := TX5) (N := 29) hts (fun w h => jIn (inW5 w h)) (hts (.instantiable RX5 29) (List.mem_append_right _ (List.mem_of_getElem? (l := tables_1) (i := 671) (by decide +kernel))))
  generalize hDe : (((fun k => [k0, k1, k2, k3, k4, k5].getD k 0), (fun k => [f0, f1, f2, f3, f4, f5].getD k (fun _ => 0))) : va_G) = D
  have hK : va_K D jCl [] s := by
    subst hDe
    refine ⟨fun k q hq => ?_, fun k q hq => by simp at hq⟩
    have hk : k < 6 := (List.getElem?_eq_some_iff.mp hq).1
    rcases (by omega : k = 0 ∨ k = 1 ∨ k = 2 ∨ k = 3 ∨ k = 4 ∨ k = 5) with rfl | rfl | rfl | rfl | rfl | rfl <;> cases hq
    · exact K0
    · exact K1
    · exact K2
    · exact K3
    · exact K4
    · exact K5
  have hP : va_P D jCl [] s.heap := fun k q hq => by simp at hq
  have hD : va_D (lA s) [] := ⟨fun i j x y hx _ _ => by simp at hx, fun k q hq => by simp at hq⟩
  have hS : va_S (lA s) s.heap s.heap [] := va_S.rf
  have hA : ∀ q : Nat, s.heap.size ≤ q → lA s q := fun _ h => h
  have hl := lv_entry ([.ref b]) (n := 4) (Nat.le_of_ble_eq_true rfl)
  rw [lg_entry_eq]
  generalize (lg_sl ([.ref b]) ++ List.replicate (4 - (lg_sl ([.ref b])).length) Slot.unset).toArray = ls at hl ⊢
  have hl : lv_has ls 4 [(0, .ref b)] := hl
  refine va_new (C := RX4) (T := TX4) (N := 16) (ci := 4) (own := RL) (Ts := lw_tbl) hx hb hts (fun w h => jIn (inW4 w h)) tyX4 tyX4_ok hown (hts _ (List.mem_append_right _ (List.mem_of_getElem? (l := tables_1) (i := 16) (by decide +kernel)))) (hts _ (List.mem_append_right _ (List.mem_of_getElem? (l := tables_1) (i := 17) (by decide +kernel)))) (hts _ (List.mem_append_right _ (List.mem_of_getElem? (l := tables_1) (i := 1) (by decide +kernel)))) hK hP hD hS hA rfl (fs := df4) df4_ok (Nat.le_of_ble_eq_true rfl) (Nat.le_of_ble_eq_true rfl) dL_law_0 (fun a0 H hP hD hS => ?_)
  refine lv_dup hx hb dL_law_3 rfl ?_
  refine lw_make C0 hK hP hD hS dL_law_4 hl_X4 lm_X4 rfl (by decide) rfl hl.1 rfl rfl (i_X4 l D a0) (fun ws1 tys1 H locs hw hK hP hD hS => ?_)
  obtain ⟨a1, qb0, qb1, qb2, qb3, a6, a7, qt0, qt1, qt2, a11, a12, a13, a22, qu0, qu1, qu2, qu3, qu4, qu5, qu6, qu7, qu8, qu9, qu10, qu11, qu12, qu13, a37, qv0, qv1, qv2, qv3, qv4, qv5, qv6, qv7, qv8, qv9, qv10, qv11, qv12, qv13, a52, a53, a54, a55, a14, qs00, a16, qs10, a18, qs20, a20, qs30, cb0, cb1, cb2, cb3, c6, ct0, ct1, ct2, c11, c12, c13, cu0, cu1, cu2, cu3, cu4, cu5, cu6, cu7, cu8, cu9, cu10, cu11, cv0, cv1, cv2, cv3, cv4, cv5, cv6, cv7, cv8, cv9, cv10, cv11, c52, c53, c54, c55, cs00, cs10, cs20, cs30, rfl, rfl⟩ := hw
  refine lv_astore_n (lv' := [(1, .ref a0), (0, .ref b)]) hx hb dL_law_7 rfl hl (by decide) rfl (fun ls hl => ?_)
  refine va_new (C := RX5) (T := TX5) (N := 29) (ci := 5) (own := RL) (Ts := lw_tbl) hx hb hts (fun w h => jIn (inW5 w h)) tyX5 tyX5_ok hown (hts _ (List.mem_append_right _ (List.mem_of_getElem? (l := tables_1) (i := 670) (by decide +kernel)))) (hts _ (List.mem_append_right _ (List.mem_of_getElem? (l := tables_1) (i := 671) (by decide +kernel)))) (hts _ (List.mem_append_right _ (List.mem_of_getElem? (l := tables_1) (i := 6) (by decide +kernel)))) hK hP hD hS hA rfl (fs := df5) df5_ok (Nat.le_of_ble_eq_true rfl) (Nat.le_of_ble_eq_true rfl) dL_law_8 (fun a56 H hP hD hS => ?_)
  refine lv_dup hx hb dL_law_11 rfl ?_
  refine lw_make C0 hK hP hD hS dL_law_12 hl_X5 lm_X5 rfl (by decide) rfl hl.1 rfl rfl (i_X5 l D a56) (fun ws1 tys1 H locs hw hK hP hD hS => ?_)
  obtain ⟨a57, a58, a59, a60, a61, a62, a63, a64, a65, a66, a67, a68, a69, a70, a71, a72, a73, a74, a75, a76, a77, c57, c58, c59, c60, c61, c62, c63, c64, c65, c66, c67, c68, c69, c70, c71, c72, c73, c74, c75, c76, c77, rfl, rfl⟩ := hw
  refine lv_astore_n (lv' := [(2, .ref a56), (1, .ref a0), (0, .ref b)]) hx hb dL_law_15 rfl hl (by decide) rfl (fun ls hl => ?_)
  refine lv_iconst (v := jI 0) hx hb dL_law_16 rfl ?_
  refine lv_istore_n (lv' := [(3, .int (jI 0)), (2, .ref a56), (1, .ref a0), (0, .ref b)]) hx hb dL_law_17 rfl hl (by decide) rfl (fun ls hl => ?_)
  refine W.widen (k := 600000) (n := 7302249) (Nat.le_of_ble_eq_true rfl) (Nat.le_of_ble_eq_true rfl) ?_
  have wK := lw_wK (a0 := a0) (a56 := a56) (a78 := a78) (a79 := a79) (a80 := a80) (l := l) (a1 := a1) (qb0 := qb0) (qb1 := qb1) (qb2 := qb2) (qb3 := qb3) (a6 := a6) (a7 := a7) (qt0 := qt0) (qt1 := qt1) (qt2 := qt2) (a11 := a11) (a12 := a12) (a13 := a13) (a22 := a22) (qu0 := qu0) (qu1 := qu1) (qu2 := qu2) (qu3 := qu3) (qu4 := qu4) (qu5 := qu5) (qu6 := qu6) (qu7 := qu7) (qu8 := qu8) (qu9 := qu9) (qu10 := qu10) (qu11 := qu11) (qu12 := qu12) (qu13 := qu13) (a37 := a37) (qv0 := qv0) (qv1 := qv1) (qv2 := qv2) (qv3 := qv3) (qv4 := qv4) (qv5 := qv5) (qv6 := qv6) (qv7 := qv7) (qv8 := qv8) (qv9 := qv9) (qv10 := qv10) (qv11 := qv11) (qv12 := qv12) (qv13 := qv13) (a52 := a52) (a53 := a53) (a54 := a54) (a55 := a55) (a14 := a14) (qs00 := qs00) (a16 := a16) (qs10 := qs10) (a18 := a18) (qs20 := qs20) (a20 := a20) (qs30 := qs30) (a57 := a57) (a58 := a58) (a59 := a59) (a60 := a60) (a61 := a61) (a62 := a62) (a63 := a63) (a64 := a64) (a65 := a65) (a66 := a66) (a67 := a67) (a68 := a68) (a69 := a69) (a70 := a70) (a71 := a71) (a72 := a72) (a73 := a73) (a74 := a74) (a75 := a75) (a76 := a76) (a77 := a77) hK
  have wH := lw_wH (a78 := a78) (a79 := a79) (a80 := a80) (l := l) hP
  obtain ⟨wI, wA⟩ := lw_wI (a78 := a78) (a79 := a79) (a80 := a80) (l := l) hD
  have C : lC (lE l D [a0, a1, qb0, qb1, qb2, qb3, a6, a7, qt0, qt1, qt2, a11, a12, a13, a14, qs00, a16, qs10, a18, qs20, a20, qs30, a22, qu0, qu1, qu2, qu3, qu4, qu5, qu6, qu7, qu8, qu9, qu10, qu11, qu12, qu13, a37, qv0, qv1, qv2, qv3, qv4, qv5, qv6, qv7, qv8, qv9, qv10, qv11, qv12, qv13, a52, a53, a54, a55, a56, a57, a58, a59, a60, a61, a62, a63, a64, a65, a66, a67, a68, a69, a70, a71, a72, a73, a74, a75, a76, a77, a78, a79, a80] [c6, c6, cb0, cb1, cb2, cb3, c6, c6, ct0, ct1, ct2, c11, c12, c13, c6, cs00, c6, cs10, c6, cs20, c6, cs30, c6, cu0, cu1, cu2, cu3, cu4, cu5, cu5, cu5, cu6, cu7, cu8, cu9, cu10, cu11, c6, cv0, cv1, cv2, cv3, cv4, cv5, cv5, cv5, cv6, cv7, cv8, cv9, cv10, cv11, c52, c53, c54, c55, c6, c57, c58, c59, c60, c61, c62, c63, c64, c65, c66, c67, c68, c69, c70, c71, c72, c73, c74, c75, c76, c77]) p s m meth c b L xs := ⟨C0, ⟨wK, wI, ⟨va_Nw.of rfl (hts _ (List.mem_append_right _ (List.mem_of_getElem? (l := tables_1) (i := 375) (by decide +kernel)))), va_Nw.of rfl (hts _ (List.mem_append_right _ (List.mem_of_getElem? (l := tables_1) (i := 378) (by decide +kernel)))), o1, o2.narrow wA, o3.narrow wA, o4.narrow wA, o5.narrow wA⟩⟩, wA, hL⟩
  exact law_loop C L 0 iH (by omega) (by omega) (by omega) iH_rel H locs ls wH hS (lv_sub hl [3, 2, 1, 0] rfl)
