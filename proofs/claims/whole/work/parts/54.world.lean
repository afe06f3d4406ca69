/-! ===== the world at the start ===== -/
theorem rf_13 (f : Nat → Nat) : (fun j => (j_ref 13 j).map f) = g_rf [f 14, f 16, f 18, f 20] := by
  funext j
  rcases (by omega : j = 0 ∨ j = 1 ∨ j = 2 ∨ j = 3 ∨ 4 ≤ j) with rfl | rfl | rfl | rfl | h
  · rfl
  · rfl
  · rfl
  · rfl
  · have h1 : j_ref 13 j = none := by
      show ([some 14, some 16, some 18, some 20] : List (Option Nat)).getD j none = none
      rw [List.getD_eq_getElem?_getD, List.getElem?_eq_none (by simpa using h)]
      rfl
    rw [h1]
    exact (List.getElem?_eq_none (by simpa using h)).symm
theorem rf_27 (f : Nat → Nat) : (fun j => (j_ref 27 j).map f) = g_rf [f 28, f 29, f 30] := by
  funext j
  rcases (by omega : j = 0 ∨ j = 1 ∨ j = 2 ∨ 3 ≤ j) with rfl | rfl | rfl | h
  · rfl
  · rfl
  · rfl
  · have h1 : j_ref 27 j = none := by
      show ([some 28, some 29, some 30] : List (Option Nat)).getD j none = none
      rw [List.getD_eq_getElem?_getD, List.getElem?_eq_none (by simpa using h)]
      rfl
    rw [h1]
    exact (List.getElem?_eq_none (by simpa using h)).symm
theorem rf_42 (f : Nat → Nat) : (fun j => (j_ref 42 j).map f) = g_rf [f 43, f 44, f 45] := by
  funext j
  rcases (by omega : j = 0 ∨ j = 1 ∨ j = 2 ∨ 3 ≤ j) with rfl | rfl | rfl | h
  · rfl
  · rfl
  · rfl
  · have h1 : j_ref 42 j = none := by
      show ([some 43, some 44, some 45] : List (Option Nat)).getD j none = none
      rw [List.getD_eq_getElem?_getD, List.getElem?_eq_none (by simpa using h)]
      rfl
    rw [h1]
    exact (List.getElem?_eq_none (by simpa using h)).symm
def lE (l : Launch) (D : va_G) (as : List Nat) (cs : List ClassId) : jE := (l, D, fun k => as.getD k 0, fun k => cs.getD k 0)
theorem mkPc {D : va_G} {cl : List vw_C} {x : Nat × va_E} {xs : va_W} {H : Heap} (h : va_at D cl x H) (t : va_P D cl xs H) : va_P D cl (x :: xs) H := by
  intro k q hk
  cases k with
  | zero => cases hk; exact h
  | succ k => exact t k q hk
theorem mkPn {D : va_G} {cl : List vw_C} {H : Heap} : va_P D cl [] H := fun k q hk => by simp at hk
theorem lw_inj {A : Nat → Prop} {V : va_W} {f : Nat → Nat} (hD : va_D A V) (h : V.map (fun x => x.1) = (List.range 78).map f) : (∀ i j : Nat, i < 78 → j < 78 → f i = f j → i = j) ∧ (∀ k : Nat, k < 78 → A (f k)) := by
  have loc : ∀ k : Nat, k < 78 → ∃ x : Nat × va_E, V[k]? = some x ∧ x.1 = f k := fun k hk => by
    have h1 : (V.map (fun x => x.1))[k]? = some (f k) := by
      rw [h, List.getElem?_map, List.getElem?_range hk]
      rfl
    rw [List.getElem?_map] at h1
    cases hv : V[k]? with
    | none => rw [hv] at h1; cases h1
    | some x => rw [hv] at h1; exact ⟨x, rfl, Option.some.inj h1⟩
  refine ⟨fun i j hi hj e => ?_, fun k hk => ?_⟩
  · obtain ⟨x, h1, h2⟩ := loc i hi
    obtain ⟨y, h3, h4⟩ := loc j hj
    exact hD.1 i j x y h1 h3 (by rw [h2, h4]; exact e)
  · obtain ⟨x, h1, h2⟩ := loc k hk
    rw [← h2]
    exact hD.2 k x h1
theorem ofl_0 (E : jE) (H : jH) : jFlds E H 0 = [.ref (E.2.2.1 1), .ref (E.2.2.1 6), .int (jI (H 0 2)), .ref (E.2.2.1 7), .ref (E.2.2.1 11), .ref (E.2.2.1 12), .int (jI (H 0 6)), .ref (E.2.2.1 13), .int (jI (H 0 8)), .ref (E.2.2.1 22), .int (jI (H 0 10)), .ref (E.2.2.1 37), .ref (E.2.2.1 52), .ref (E.2.2.1 53), .ref (E.2.2.1 54), .ref (E.2.2.1 55)] := by
  unfold jFlds
  rw [show j_refL.getD 0 [] = [some 1, some 6, none, some 7, some 11, some 12, none, some 13, none, some 22, none, some 37, some 52, some 53, some 54, some 55] from rfl]
  simp only [List.mapIdx_cons, List.mapIdx_nil]
  rfl
theorem ofl_1 (E : jE) (H : jH) : jFlds E H 1 = [.ref (E.2.2.1 2), .int (jI (H 1 1)), .int (jI (H 1 2)), .int (jI (H 1 3)), .ref (E.2.2.1 3), .ref (E.2.2.1 4), .ref (E.2.2.1 5)] := by
  unfold jFlds
  rw [show j_refL.getD 1 [] = [some 2, none, none, none, some 3, some 4, some 5] from rfl]
  simp only [List.mapIdx_cons, List.mapIdx_nil]
  rfl
theorem ofl_7 (E : jE) (H : jH) : jFlds E H 7 = [.ref (E.2.2.1 8), .ref (E.2.2.1 9), .ref (E.2.2.1 10), .int (jI (H 7 3))] := by
  unfold jFlds
  rw [show j_refL.getD 7 [] = [some 8, some 9, some 10, none] from rfl]
  simp only [List.mapIdx_cons, List.mapIdx_nil]
  rfl
theorem ofl_14 (E : jE) (H : jH) : jFlds E H 14 = [.int (jI (H 14 0)), .int (jI (H 14 1)), .int (jI (H 14 2)), .ref (E.2.2.1 15)] := by
  unfold jFlds
  rw [show j_refL.getD 14 [] = [none, none, none, some 15] from rfl]
  simp only [List.mapIdx_cons, List.mapIdx_nil]
  rfl
theorem ofl_16 (E : jE) (H : jH) : jFlds E H 16 = [.int (jI (H 16 0)), .int (jI (H 16 1)), .int (jI (H 16 2)), .ref (E.2.2.1 17)] := by
  unfold jFlds
  rw [show j_refL.getD 16 [] = [none, none, none, some 17] from rfl]
  simp only [List.mapIdx_cons, List.mapIdx_nil]
  rfl
theorem ofl_18 (E : jE) (H : jH) : jFlds E H 18 = [.int (jI (H 18 0)), .int (jI (H 18 1)), .int (jI (H 18 2)), .ref (E.2.2.1 19)] := by
  unfold jFlds
  rw [show j_refL.getD 18 [] = [none, none, none, some 19] from rfl]
  simp only [List.mapIdx_cons, List.mapIdx_nil]
  rfl
theorem ofl_20 (E : jE) (H : jH) : jFlds E H 20 = [.int (jI (H 20 0)), .int (jI (H 20 1)), .int (jI (H 20 2)), .ref (E.2.2.1 21)] := by
  unfold jFlds
  rw [show j_refL.getD 20 [] = [none, none, none, some 21] from rfl]
  simp only [List.mapIdx_cons, List.mapIdx_nil]
  rfl
theorem ofl_22 (E : jE) (H : jH) : jFlds E H 22 = [.int (jI (H 22 0)), .ref (E.2.2.1 23), .ref (E.2.2.1 24), .ref (E.2.2.1 25), .ref (E.2.2.1 26), .int (jI (H 22 5)), .ref (E.2.2.1 27), .ref (E.2.2.1 31), .ref (E.2.2.1 32), .ref (E.2.2.1 33), .ref (E.2.2.1 34), .ref (E.2.2.1 35), .ref (E.2.2.1 36), .int (jI (H 22 13)), .int (jI (H 22 14)), .int (jI (H 22 15))] := by
  unfold jFlds
  rw [show j_refL.getD 22 [] = [none, some 23, some 24, some 25, some 26, none, some 27, some 31, some 32, some 33, some 34, some 35, some 36, none, none, none] from rfl]
  simp only [List.mapIdx_cons, List.mapIdx_nil]
  rfl
theorem ofl_37 (E : jE) (H : jH) : jFlds E H 37 = [.int (jI (H 37 0)), .ref (E.2.2.1 38), .ref (E.2.2.1 39), .ref (E.2.2.1 40), .ref (E.2.2.1 41), .int (jI (H 37 5)), .ref (E.2.2.1 42), .ref (E.2.2.1 46), .ref (E.2.2.1 47), .ref (E.2.2.1 48), .ref (E.2.2.1 49), .ref (E.2.2.1 50), .ref (E.2.2.1 51), .int (jI (H 37 13)), .int (jI (H 37 14)), .int (jI (H 37 15))] := by
  unfold jFlds
  rw [show j_refL.getD 37 [] = [none, some 38, some 39, some 40, some 41, none, some 42, some 46, some 47, some 48, some 49, some 50, some 51, none, none, none] from rfl]
  simp only [List.mapIdx_cons, List.mapIdx_nil]
  rfl
theorem ofl_56 (E : jE) (H : jH) : jFlds E H 56 = [.ref (E.2.2.1 57), .ref (E.2.2.1 58), .ref (E.2.2.1 59), .ref (E.2.2.1 60), .int (jI (H 56 4)), .ref (E.2.2.1 61), .int (jI (H 56 6)), .int (jI (H 56 7)), .int (jI (H 56 8)), .ref (E.2.2.1 62), .ref (E.2.2.1 63), .int (jI (H 56 11)), .int (jI (H 56 12)), .ref (E.2.2.1 64), .ref (E.2.2.1 65), .ref (E.2.2.1 66), .ref (E.2.2.1 67), .ref (E.2.2.1 68), .ref (E.2.2.1 69), .ref (E.2.2.1 70), .ref (E.2.2.1 71), .int (jI (H 56 21)), .ref (E.2.2.1 72), .ref (E.2.2.1 73), .ref (E.2.2.1 74), .ref (E.2.2.1 75), .int (jI (H 56 26)), .ref (E.2.2.1 76), .ref (E.2.2.1 77)] := by
  unfold jFlds
  rw [show j_refL.getD 56 [] = [some 57, some 58, some 59, some 60, none, some 61, none, none, none, some 62, some 63, none, none, some 64, some 65, some 66, some 67, some 68, some 69, some 70, some 71, none, some 72, some 73, some 74, some 75, none, some 76, some 77] from rfl]
  simp only [List.mapIdx_cons, List.mapIdx_nil]
  rfl
set_option maxRecDepth 100000 in
set_option maxHeartbeats 4000000 in
theorem lw_wK {l : Launch} {D : va_G} {s : State} {a0 a56 a78 a79 a80 a1 qb0 qb1 qb2 qb3 a6 a7 qt0 qt1 qt2 a11 a12 a13 a22 qu0 qu1 qu2 qu3 qu4 qu5 qu6 qu7 qu8 qu9 qu10 qu11 qu12 qu13 a37 qv0 qv1 qv2 qv3 qv4 qv5 qv6 qv7 qv8 qv9 qv10 qv11 qv12 qv13 a52 a53 a54 a55 a14 qs00 a16 qs10 a18 qs20 a20 qs30 a57 a58 a59 a60 a61 a62 a63 a64 a65 a66 a67 a68 a69 a70 a71 a72 a73 a74 a75 a76 a77 : Nat} {cb0 cb1 cb2 cb3 c6 ct0 ct1 ct2 c11 c12 c13 cu0 cu1 cu2 cu3 cu4 cu5 cu6 cu7 cu8 cu9 cu10 cu11 cv0 cv1 cv2 cv3 cv4 cv5 cv6 cv7 cv8 cv9 cv10 cv11 c52 c53 c54 c55 cs00 cs10 cs20 cs30 c57 c58 c59 c60 c61 c62 c63 c64 c65 c66 c67 c68 c69 c70 c71 c72 c73 c74 c75 c76 c77 : ClassId} (hK : va_K D jCl [(cb0, .int), (cb1, .int), (cb2, .int), (cb3, .int), (c6, .int), (ct0, .int), (ct1, .int), (ct2, .int), (c11, .int), (c12, .int), (c13, .object RX2), (cu0, .int), (cu1, .int), (cu2, .int), (cu3, .int), (cu4, .array .int), (cu5, .int), (cu6, .int), (cu7, .int), (cu8, .int), (cu9, .int), (cu10, .int), (cu11, .int), (cv0, .int), (cv1, .int), (cv2, .int), (cv3, .int), (cv4, .array .int), (cv5, .int), (cv6, .int), (cv7, .int), (cv8, .int), (cv9, .int), (cv10, .int), (cv11, .int), (c52, .int), (c53, .int), (c54, .int), (c55, .int), (cs00, .int), (cs10, .int), (cs20, .int), (cs30, .int), (c57, .int), (c58, .int), (c59, .int), (c60, .int), (c61, .int), (c62, .int), (c63, .int), (c64, .int), (c65, .int), (c66, .int), (c67, .int), (c68, .int), (c69, .int), (c70, .int), (c71, .int), (c72, .int), (c73, .int), (c74, .int), (c75, .int), (c76, .int), (c77, .int)] s) : va_K D jCl (jTys (lE l D [a0, a1, qb0, qb1, qb2, qb3, a6, a7, qt0, qt1, qt2, a11, a12, a13, a14, qs00, a16, qs10, a18, qs20, a20, qs30, a22, qu0, qu1, qu2, qu3, qu4, qu5, qu6, qu7, qu8, qu9, qu10, qu11, qu12, qu13, a37, qv0, qv1, qv2, qv3, qv4, qv5, qv6, qv7, qv8, qv9, qv10, qv11, qv12, qv13, a52, a53, a54, a55, a56, a57, a58, a59, a60, a61, a62, a63, a64, a65, a66, a67, a68, a69, a70, a71, a72, a73, a74, a75, a76, a77, a78, a79, a80] [c6, c6, cb0, cb1, cb2, cb3, c6, c6, ct0, ct1, ct2, c11, c12, c13, c6, cs00, c6, cs10, c6, cs20, c6, cs30, c6, cu0, cu1, cu2, cu3, cu4, cu5, cu5, cu5, cu6, cu7, cu8, cu9, cu10, cu11, c6, cv0, cv1, cv2, cv3, cv4, cv5, cv5, cv5, cv6, cv7, cv8, cv9, cv10, cv11, c52, c53, c54, c55, c6, c57, c58, c59, c60, c61, c62, c63, c64, c65, c66, c67, c68, c69, c70, c71, c72, c73, c74, c75, c76, c77])) s := hK.sub [4, 4, 0, 1, 2, 3, 4, 4, 5, 6, 7, 8, 9, 10, 4, 39, 4, 40, 4, 41, 4, 42, 4, 11, 12, 13, 14, 15, 16, 16, 16, 17, 18, 19, 20, 21, 22, 4, 23, 24, 25, 26, 27, 28, 28, 28, 29, 30, 31, 32, 33, 34, 35, 36, 37, 38, 4, 43, 44, 45, 46, 47, 48, 49, 50, 51, 52, 53, 54, 55, 56, 57, 58, 59, 60, 61, 62, 63] rfl
set_option maxRecDepth 100000 in
set_option maxHeartbeats 4000000 in
theorem lw_wD {s : State} {a0 a56 a78 a79 a80 a1 qb0 qb1 qb2 qb3 a6 a7 qt0 qt1 qt2 a11 a12 a13 a22 qu0 qu1 qu2 qu3 qu4 qu5 qu6 qu7 qu8 qu9 qu10 qu11 qu12 qu13 a37 qv0 qv1 qv2 qv3 qv4 qv5 qv6 qv7 qv8 qv9 qv10 qv11 qv12 qv13 a52 a53 a54 a55 a14 qs00 a16 qs10 a18 qs20 a20 qs30 a57 a58 a59 a60 a61 a62 a63 a64 a65 a66 a67 a68 a69 a70 a71 a72 a73 a74 a75 a76 a77 : Nat} {cb0 cb1 cb2 cb3 c6 ct0 ct1 ct2 c11 c12 c13 cu0 cu1 cu2 cu3 cu4 cu5 cu6 cu7 cu8 cu9 cu10 cu11 cv0 cv1 cv2 cv3 cv4 cv5 cv6 cv7 cv8 cv9 cv10 cv11 c52 c53 c54 c55 cs00 cs10 cs20 cs30 c57 c58 c59 c60 c61 c62 c63 c64 c65 c66 c67 c68 c69 c70 c71 c72 c73 c74 c75 c76 c77 : ClassId} (hD : va_D (lA s) [(a0, .inr (4, [.ref a1, .ref a6, .int (jI 0), .ref a7, .ref a11, .ref a12, .int (jI 0), .ref a13, .int (jI 0), .ref a22, .int (jI 1), .ref a37, .ref a52, .ref a53, .ref a54, .ref a55])), (a1, .inr (0, [.ref qb0, .int (jI 0), .int (jI (-1)), .int (jI 0), .ref qb1, .ref qb2, .ref qb3])), (qb0, .inl (cb0, 35, .inl (fun _ => jI 0))), (qb1, .inl (cb1, 9, .inl (fun _ => jI 0))), (qb2, .inl (cb2, 9, .inl (fun _ => jI 0))), (qb3, .inl (cb3, 9, .inl (fun _ => jI 0))), (a6, .inl (c6, 9, .inl (fun j => jI (iH 6 j)))), (a7, .inr (3, [.ref qt0, .ref qt1, .ref qt2, .int (jI 0)])), (qt0, .inl (ct0, 24, .inl (fun _ => jI 0))), (qt1, .inl (ct1, 24, .inl (fun _ => jI 0))), (qt2, .inl (ct2, 24, .inl (fun _ => jI 0))), (a11, .inl (c11, 8, .inl (fun _ => jI 0))), (a12, .inl (c12, 8, .inl (fun _ => jI 0))), (a13, .inl (c13, 4, .inr (.inr (.inr (.inr (g_rf [a14, a16, a18, a20])))))), (a22, .inr (1, [.int (jI 0), .ref qu0, .ref qu1, .ref qu2, .ref qu3, .int (jI 0), .ref qu4, .ref qu8, .ref qu9, .ref qu10, .ref qu11, .ref qu12, .ref qu13, .int (jI 0), .int (jI 0), .int (jI 0)])), (qu0, .inl (cu0, 9, .inl (fun _ => jI 0))), (qu1, .inl (cu1, 9, .inl (fun _ => jI 0))), (qu2, .inl (cu2, 9, .inl (fun _ => jI 0))), (qu3, .inl (cu3, 9, .inl (fun _ => jI 0))), (qu4, .inl (cu4, 3, .inr (.inr (.inr (.inr (g_rf [qu5, qu6, qu7])))))), (qu5, .inl (cu5, 60, .inl (fun _ => jI 0))), (qu6, .inl (cu5, 60, .inl (fun _ => jI 0))), (qu7, .inl (cu5, 60, .inl (fun _ => jI 0))), (qu8, .inl (cu6, 60, .inl (fun _ => jI 0))), (qu9, .inl (cu7, 60, .inl (fun _ => jI 0))), (qu10, .inl (cu8, 9, .inl (fun _ => jI 0))), (qu11, .inl (cu9, 9, .inl (fun _ => jI 0))), (qu12, .inl (cu10, 9, .inl (fun _ => jI 0))), (qu13, .inl (cu11, 9, .inl (fun _ => jI 0))), (a37, .inr (1, [.int (jI 0), .ref qv0, .ref qv1, .ref qv2, .ref qv3, .int (jI 0), .ref qv4, .ref qv8, .ref qv9, .ref qv10, .ref qv11, .ref qv12, .ref qv13, .int (jI 0), .int (jI 0), .int (jI 0)])), (qv0, .inl (cv0, 9, .inl (fun _ => jI 0))), (qv1, .inl (cv1, 9, .inl (fun _ => jI 0))), (qv2, .inl (cv2, 9, .inl (fun _ => jI 0))), (qv3, .inl (cv3, 9, .inl (fun _ => jI 0))), (qv4, .inl (cv4, 3, .inr (.inr (.inr (.inr (g_rf [qv5, qv6, qv7])))))), (qv5, .inl (cv5, 60, .inl (fun _ => jI 0))), (qv6, .inl (cv5, 60, .inl (fun _ => jI 0))), (qv7, .inl (cv5, 60, .inl (fun _ => jI 0))), (qv8, .inl (cv6, 60, .inl (fun _ => jI 0))), (qv9, .inl (cv7, 60, .inl (fun _ => jI 0))), (qv10, .inl (cv8, 9, .inl (fun _ => jI 0))), (qv11, .inl (cv9, 9, .inl (fun _ => jI 0))), (qv12, .inl (cv10, 9, .inl (fun _ => jI 0))), (qv13, .inl (cv11, 9, .inl (fun _ => jI 0))), (a52, .inl (c52, 37, .inl (fun _ => jI 0))), (a53, .inl (c53, 10, .inl (fun _ => jI 0))), (a54, .inl (c54, 9, .inl (fun _ => jI 0))), (a55, .inl (c55, 9, .inl (fun _ => jI 0))), (a14, .inr (2, [.int (jI 1), .int (jI 0), .int (jI 0), .ref qs00])), (qs00, .inl (cs00, 60, .inl (fun _ => jI 0))), (a16, .inr (2, [.int (jI 1), .int (jI 0), .int (jI 0), .ref qs10])), (qs10, .inl (cs10, 60, .inl (fun _ => jI 0))), (a18, .inr (2, [.int (jI 1), .int (jI 0), .int (jI 0), .ref qs20])), (qs20, .inl (cs20, 60, .inl (fun _ => jI 0))), (a20, .inr (2, [.int (jI 1), .int (jI 0), .int (jI 0), .ref qs30])), (qs30, .inl (cs30, 60, .inl (fun _ => jI 0))), (a56, .inr (5, [.ref a57, .ref a58, .ref a59, .ref a60, .int (jI 0), .ref a61, .int (jI 0), .int (jI 0), .int (jI 0), .ref a62, .ref a63, .int (jI 0), .int (jI 0), .ref a64, .ref a65, .ref a66, .ref a67, .ref a68, .ref a69, .ref a70, .ref a71, .int (jI 0), .ref a72, .ref a73, .ref a74, .ref a75, .int (jI 0), .ref a76, .ref a77])), (a57, .inl (c57, 4, .inl (fun j => jI (iH 57 j)))), (a58, .inl (c58, 4, .inl (fun _ => jI 0))), (a59, .inl (c59, 240, .inl (fun _ => jI 0))), (a60, .inl (c60, 60, .inl (fun _ => jI 0))), (a61, .inl (c61, 35, .inl (fun _ => jI 0))), (a62, .inl (c62, 27, .inl (fun _ => jI 0))), (a63, .inl (c63, 9, .inl (fun j => jI (iH 63 j)))), (a64, .inl (c64, 72, .inl (fun _ => jI 0))), (a65, .inl (c65, 180, .inl (fun _ => jI 0))), (a66, .inl (c66, 60, .inl (fun _ => jI 0))), (a67, .inl (c67, 60, .inl (fun _ => jI 0))), (a68, .inl (c68, 540, .inl (fun _ => jI 0))), (a69, .inl (c69, 9, .inl (fun _ => jI 0))), (a70, .inl (c70, 9, .inl (fun _ => jI 0))), (a71, .inl (c71, 9, .inl (fun _ => jI 0))), (a72, .inl (c72, 9, .inl (fun _ => jI 0))), (a73, .inl (c73, 9, .inl (fun _ => jI 0))), (a74, .inl (c74, 6, .inl (fun _ => jI 0))), (a75, .inl (c75, 6, .inl (fun _ => jI 0))), (a76, .inl (c76, 16, .inl (fun _ => jI 0))), (a77, .inl (c77, 10, .inl (fun _ => jI 0)))]) : va_D (lA s) [(a0, .inr (4, [.ref a1, .ref a6, .int (jI 0), .ref a7, .ref a11, .ref a12, .int (jI 0), .ref a13, .int (jI 0), .ref a22, .int (jI 1), .ref a37, .ref a52, .ref a53, .ref a54, .ref a55])), (a1, .inr (0, [.ref qb0, .int (jI 0), .int (jI (-1)), .int (jI 0), .ref qb1, .ref qb2, .ref qb3])), (qb0, .inl (cb0, 35, .inl (fun _ => jI 0))), (qb1, .inl (cb1, 9, .inl (fun _ => jI 0))), (qb2, .inl (cb2, 9, .inl (fun _ => jI 0))), (qb3, .inl (cb3, 9, .inl (fun _ => jI 0))), (a6, .inl (c6, 9, .inl (fun j => jI (iH 6 j)))), (a7, .inr (3, [.ref qt0, .ref qt1, .ref qt2, .int (jI 0)])), (qt0, .inl (ct0, 24, .inl (fun _ => jI 0))), (qt1, .inl (ct1, 24, .inl (fun _ => jI 0))), (qt2, .inl (ct2, 24, .inl (fun _ => jI 0))), (a11, .inl (c11, 8, .inl (fun _ => jI 0))), (a12, .inl (c12, 8, .inl (fun _ => jI 0))), (a13, .inl (c13, 4, .inr (.inr (.inr (.inr (g_rf [a14, a16, a18, a20])))))), (a14, .inr (2, [.int (jI 1), .int (jI 0), .int (jI 0), .ref qs00])), (qs00, .inl (cs00, 60, .inl (fun _ => jI 0))), (a16, .inr (2, [.int (jI 1), .int (jI 0), .int (jI 0), .ref qs10])), (qs10, .inl (cs10, 60, .inl (fun _ => jI 0))), (a18, .inr (2, [.int (jI 1), .int (jI 0), .int (jI 0), .ref qs20])), (qs20, .inl (cs20, 60, .inl (fun _ => jI 0))), (a20, .inr (2, [.int (jI 1), .int (jI 0), .int (jI 0), .ref qs30])), (qs30, .inl (cs30, 60, .inl (fun _ => jI 0))), (a22, .inr (1, [.int (jI 0), .ref qu0, .ref qu1, .ref qu2, .ref qu3, .int (jI 0), .ref qu4, .ref qu8, .ref qu9, .ref qu10, .ref qu11, .ref qu12, .ref qu13, .int (jI 0), .int (jI 0), .int (jI 0)])), (qu0, .inl (cu0, 9, .inl (fun _ => jI 0))), (qu1, .inl (cu1, 9, .inl (fun _ => jI 0))), (qu2, .inl (cu2, 9, .inl (fun _ => jI 0))), (qu3, .inl (cu3, 9, .inl (fun _ => jI 0))), (qu4, .inl (cu4, 3, .inr (.inr (.inr (.inr (g_rf [qu5, qu6, qu7])))))), (qu5, .inl (cu5, 60, .inl (fun _ => jI 0))), (qu6, .inl (cu5, 60, .inl (fun _ => jI 0))), (qu7, .inl (cu5, 60, .inl (fun _ => jI 0))), (qu8, .inl (cu6, 60, .inl (fun _ => jI 0))), (qu9, .inl (cu7, 60, .inl (fun _ => jI 0))), (qu10, .inl (cu8, 9, .inl (fun _ => jI 0))), (qu11, .inl (cu9, 9, .inl (fun _ => jI 0))), (qu12, .inl (cu10, 9, .inl (fun _ => jI 0))), (qu13, .inl (cu11, 9, .inl (fun _ => jI 0))), (a37, .inr (1, [.int (jI 0), .ref qv0, .ref qv1, .ref qv2, .ref qv3, .int (jI 0), .ref qv4, .ref qv8, .ref qv9, .ref qv10, .ref qv11, .ref qv12, .ref qv13, .int (jI 0), .int (jI 0), .int (jI 0)])), (qv0, .inl (cv0, 9, .inl (fun _ => jI 0))), (qv1, .inl (cv1, 9, .inl (fun _ => jI 0))), (qv2, .inl (cv2, 9, .inl (fun _ => jI 0))), (qv3, .inl (cv3, 9, .inl (fun _ => jI 0))), (qv4, .inl (cv4, 3, .inr (.inr (.inr (.inr (g_rf [qv5, qv6, qv7])))))), (qv5, .inl (cv5, 60, .inl (fun _ => jI 0))), (qv6, .inl (cv5, 60, .inl (fun _ => jI 0))), (qv7, .inl (cv5, 60, .inl (fun _ => jI 0))), (qv8, .inl (cv6, 60, .inl (fun _ => jI 0))), (qv9, .inl (cv7, 60, .inl (fun _ => jI 0))), (qv10, .inl (cv8, 9, .inl (fun _ => jI 0))), (qv11, .inl (cv9, 9, .inl (fun _ => jI 0))), (qv12, .inl (cv10, 9, .inl (fun _ => jI 0))), (qv13, .inl (cv11, 9, .inl (fun _ => jI 0))), (a52, .inl (c52, 37, .inl (fun _ => jI 0))), (a53, .inl (c53, 10, .inl (fun _ => jI 0))), (a54, .inl (c54, 9, .inl (fun _ => jI 0))), (a55, .inl (c55, 9, .inl (fun _ => jI 0))), (a56, .inr (5, [.ref a57, .ref a58, .ref a59, .ref a60, .int (jI 0), .ref a61, .int (jI 0), .int (jI 0), .int (jI 0), .ref a62, .ref a63, .int (jI 0), .int (jI 0), .ref a64, .ref a65, .ref a66, .ref a67, .ref a68, .ref a69, .ref a70, .ref a71, .int (jI 0), .ref a72, .ref a73, .ref a74, .ref a75, .int (jI 0), .ref a76, .ref a77])), (a57, .inl (c57, 4, .inl (fun j => jI (iH 57 j)))), (a58, .inl (c58, 4, .inl (fun _ => jI 0))), (a59, .inl (c59, 240, .inl (fun _ => jI 0))), (a60, .inl (c60, 60, .inl (fun _ => jI 0))), (a61, .inl (c61, 35, .inl (fun _ => jI 0))), (a62, .inl (c62, 27, .inl (fun _ => jI 0))), (a63, .inl (c63, 9, .inl (fun j => jI (iH 63 j)))), (a64, .inl (c64, 72, .inl (fun _ => jI 0))), (a65, .inl (c65, 180, .inl (fun _ => jI 0))), (a66, .inl (c66, 60, .inl (fun _ => jI 0))), (a67, .inl (c67, 60, .inl (fun _ => jI 0))), (a68, .inl (c68, 540, .inl (fun _ => jI 0))), (a69, .inl (c69, 9, .inl (fun _ => jI 0))), (a70, .inl (c70, 9, .inl (fun _ => jI 0))), (a71, .inl (c71, 9, .inl (fun _ => jI 0))), (a72, .inl (c72, 9, .inl (fun _ => jI 0))), (a73, .inl (c73, 9, .inl (fun _ => jI 0))), (a74, .inl (c74, 6, .inl (fun _ => jI 0))), (a75, .inl (c75, 6, .inl (fun _ => jI 0))), (a76, .inl (c76, 16, .inl (fun _ => jI 0))), (a77, .inl (c77, 10, .inl (fun _ => jI 0)))] := hD.sub [0, 1, 2, 3, 4, 5, 6, 7, 8, 9, 10, 11, 12, 13, 48, 49, 50, 51, 52, 53, 54, 55, 14, 15, 16, 17, 18, 19, 20, 21, 22, 23, 24, 25, 26, 27, 28, 29, 30, 31, 32, 33, 34, 35, 36, 37, 38, 39, 40, 41, 42, 43, 44, 45, 46, 47, 56, 57, 58, 59, 60, 61, 62, 63, 64, 65, 66, 67, 68, 69, 70, 71, 72, 73, 74, 75, 76, 77] (by decide) rfl
set_option maxRecDepth 100000 in
set_option maxHeartbeats 4000000 in
theorem lw_wI {l : Launch} {D : va_G} {s : State} {a0 a56 a78 a79 a80 a1 qb0 qb1 qb2 qb3 a6 a7 qt0 qt1 qt2 a11 a12 a13 a22 qu0 qu1 qu2 qu3 qu4 qu5 qu6 qu7 qu8 qu9 qu10 qu11 qu12 qu13 a37 qv0 qv1 qv2 qv3 qv4 qv5 qv6 qv7 qv8 qv9 qv10 qv11 qv12 qv13 a52 a53 a54 a55 a14 qs00 a16 qs10 a18 qs20 a20 qs30 a57 a58 a59 a60 a61 a62 a63 a64 a65 a66 a67 a68 a69 a70 a71 a72 a73 a74 a75 a76 a77 : Nat} {cb0 cb1 cb2 cb3 c6 ct0 ct1 ct2 c11 c12 c13 cu0 cu1 cu2 cu3 cu4 cu5 cu6 cu7 cu8 cu9 cu10 cu11 cv0 cv1 cv2 cv3 cv4 cv5 cv6 cv7 cv8 cv9 cv10 cv11 c52 c53 c54 c55 cs00 cs10 cs20 cs30 c57 c58 c59 c60 c61 c62 c63 c64 c65 c66 c67 c68 c69 c70 c71 c72 c73 c74 c75 c76 c77 : ClassId} (hD : va_D (lA s) [(a0, .inr (4, [.ref a1, .ref a6, .int (jI 0), .ref a7, .ref a11, .ref a12, .int (jI 0), .ref a13, .int (jI 0), .ref a22, .int (jI 1), .ref a37, .ref a52, .ref a53, .ref a54, .ref a55])), (a1, .inr (0, [.ref qb0, .int (jI 0), .int (jI (-1)), .int (jI 0), .ref qb1, .ref qb2, .ref qb3])), (qb0, .inl (cb0, 35, .inl (fun _ => jI 0))), (qb1, .inl (cb1, 9, .inl (fun _ => jI 0))), (qb2, .inl (cb2, 9, .inl (fun _ => jI 0))), (qb3, .inl (cb3, 9, .inl (fun _ => jI 0))), (a6, .inl (c6, 9, .inl (fun j => jI (iH 6 j)))), (a7, .inr (3, [.ref qt0, .ref qt1, .ref qt2, .int (jI 0)])), (qt0, .inl (ct0, 24, .inl (fun _ => jI 0))), (qt1, .inl (ct1, 24, .inl (fun _ => jI 0))), (qt2, .inl (ct2, 24, .inl (fun _ => jI 0))), (a11, .inl (c11, 8, .inl (fun _ => jI 0))), (a12, .inl (c12, 8, .inl (fun _ => jI 0))), (a13, .inl (c13, 4, .inr (.inr (.inr (.inr (g_rf [a14, a16, a18, a20])))))), (a22, .inr (1, [.int (jI 0), .ref qu0, .ref qu1, .ref qu2, .ref qu3, .int (jI 0), .ref qu4, .ref qu8, .ref qu9, .ref qu10, .ref qu11, .ref qu12, .ref qu13, .int (jI 0), .int (jI 0), .int (jI 0)])), (qu0, .inl (cu0, 9, .inl (fun _ => jI 0))), (qu1, .inl (cu1, 9, .inl (fun _ => jI 0))), (qu2, .inl (cu2, 9, .inl (fun _ => jI 0))), (qu3, .inl (cu3, 9, .inl (fun _ => jI 0))), (qu4, .inl (cu4, 3, .inr (.inr (.inr (.inr (g_rf [qu5, qu6, qu7])))))), (qu5, .inl (cu5, 60, .inl (fun _ => jI 0))), (qu6, .inl (cu5, 60, .inl (fun _ => jI 0))), (qu7, .inl (cu5, 60, .inl (fun _ => jI 0))), (qu8, .inl (cu6, 60, .inl (fun _ => jI 0))), (qu9, .inl (cu7, 60, .inl (fun _ => jI 0))), (qu10, .inl (cu8, 9, .inl (fun _ => jI 0))), (qu11, .inl (cu9, 9, .inl (fun _ => jI 0))), (qu12, .inl (cu10, 9, .inl (fun _ => jI 0))), (qu13, .inl (cu11, 9, .inl (fun _ => jI 0))), (a37, .inr (1, [.int (jI 0), .ref qv0, .ref qv1, .ref qv2, .ref qv3, .int (jI 0), .ref qv4, .ref qv8, .ref qv9, .ref qv10, .ref qv11, .ref qv12, .ref qv13, .int (jI 0), .int (jI 0), .int (jI 0)])), (qv0, .inl (cv0, 9, .inl (fun _ => jI 0))), (qv1, .inl (cv1, 9, .inl (fun _ => jI 0))), (qv2, .inl (cv2, 9, .inl (fun _ => jI 0))), (qv3, .inl (cv3, 9, .inl (fun _ => jI 0))), (qv4, .inl (cv4, 3, .inr (.inr (.inr (.inr (g_rf [qv5, qv6, qv7])))))), (qv5, .inl (cv5, 60, .inl (fun _ => jI 0))), (qv6, .inl (cv5, 60, .inl (fun _ => jI 0))), (qv7, .inl (cv5, 60, .inl (fun _ => jI 0))), (qv8, .inl (cv6, 60, .inl (fun _ => jI 0))), (qv9, .inl (cv7, 60, .inl (fun _ => jI 0))), (qv10, .inl (cv8, 9, .inl (fun _ => jI 0))), (qv11, .inl (cv9, 9, .inl (fun _ => jI 0))), (qv12, .inl (cv10, 9, .inl (fun _ => jI 0))), (qv13, .inl (cv11, 9, .inl (fun _ => jI 0))), (a52, .inl (c52, 37, .inl (fun _ => jI 0))), (a53, .inl (c53, 10, .inl (fun _ => jI 0))), (a54, .inl (c54, 9, .inl (fun _ => jI 0))), (a55, .inl (c55, 9, .inl (fun _ => jI 0))), (a14, .inr (2, [.int (jI 1), .int (jI 0), .int (jI 0), .ref qs00])), (qs00, .inl (cs00, 60, .inl (fun _ => jI 0))), (a16, .inr (2, [.int (jI 1), .int (jI 0), .int (jI 0), .ref qs10])), (qs10, .inl (cs10, 60, .inl (fun _ => jI 0))), (a18, .inr (2, [.int (jI 1), .int (jI 0), .int (jI 0), .ref qs20])), (qs20, .inl (cs20, 60, .inl (fun _ => jI 0))), (a20, .inr (2, [.int (jI 1), .int (jI 0), .int (jI 0), .ref qs30])), (qs30, .inl (cs30, 60, .inl (fun _ => jI 0))), (a56, .inr (5, [.ref a57, .ref a58, .ref a59, .ref a60, .int (jI 0), .ref a61, .int (jI 0), .int (jI 0), .int (jI 0), .ref a62, .ref a63, .int (jI 0), .int (jI 0), .ref a64, .ref a65, .ref a66, .ref a67, .ref a68, .ref a69, .ref a70, .ref a71, .int (jI 0), .ref a72, .ref a73, .ref a74, .ref a75, .int (jI 0), .ref a76, .ref a77])), (a57, .inl (c57, 4, .inl (fun j => jI (iH 57 j)))), (a58, .inl (c58, 4, .inl (fun _ => jI 0))), (a59, .inl (c59, 240, .inl (fun _ => jI 0))), (a60, .inl (c60, 60, .inl (fun _ => jI 0))), (a61, .inl (c61, 35, .inl (fun _ => jI 0))), (a62, .inl (c62, 27, .inl (fun _ => jI 0))), (a63, .inl (c63, 9, .inl (fun j => jI (iH 63 j)))), (a64, .inl (c64, 72, .inl (fun _ => jI 0))), (a65, .inl (c65, 180, .inl (fun _ => jI 0))), (a66, .inl (c66, 60, .inl (fun _ => jI 0))), (a67, .inl (c67, 60, .inl (fun _ => jI 0))), (a68, .inl (c68, 540, .inl (fun _ => jI 0))), (a69, .inl (c69, 9, .inl (fun _ => jI 0))), (a70, .inl (c70, 9, .inl (fun _ => jI 0))), (a71, .inl (c71, 9, .inl (fun _ => jI 0))), (a72, .inl (c72, 9, .inl (fun _ => jI 0))), (a73, .inl (c73, 9, .inl (fun _ => jI 0))), (a74, .inl (c74, 6, .inl (fun _ => jI 0))), (a75, .inl (c75, 6, .inl (fun _ => jI 0))), (a76, .inl (c76, 16, .inl (fun _ => jI 0))), (a77, .inl (c77, 10, .inl (fun _ => jI 0)))]) : jInj (lE l D [a0, a1, qb0, qb1, qb2, qb3, a6, a7, qt0, qt1, qt2, a11, a12, a13, a14, qs00, a16, qs10, a18, qs20, a20, qs30, a22, qu0, qu1, qu2, qu3, qu4, qu5, qu6, qu7, qu8, qu9, qu10, qu11, qu12, qu13, a37, qv0, qv1, qv2, qv3, qv4, qv5, qv6, qv7, qv8, qv9, qv10, qv11, qv12, qv13, a52, a53, a54, a55, a56, a57, a58, a59, a60, a61, a62, a63, a64, a65, a66, a67, a68, a69, a70, a71, a72, a73, a74, a75, a76, a77, a78, a79, a80] [c6, c6, cb0, cb1, cb2, cb3, c6, c6, ct0, ct1, ct2, c11, c12, c13, c6, cs00, c6, cs10, c6, cs20, c6, cs30, c6, cu0, cu1, cu2, cu3, cu4, cu5, cu5, cu5, cu6, cu7, cu8, cu9, cu10, cu11, c6, cv0, cv1, cv2, cv3, cv4, cv5, cv5, cv5, cv6, cv7, cv8, cv9, cv10, cv11, c52, c53, c54, c55, c6, c57, c58, c59, c60, c61, c62, c63, c64, c65, c66, c67, c68, c69, c70, c71, c72, c73, c74, c75, c76, c77]) ∧ (∀ q, jA (lE l D [a0, a1, qb0, qb1, qb2, qb3, a6, a7, qt0, qt1, qt2, a11, a12, a13, a14, qs00, a16, qs10, a18, qs20, a20, qs30, a22, qu0, qu1, qu2, qu3, qu4, qu5, qu6, qu7, qu8, qu9, qu10, qu11, qu12, qu13, a37, qv0, qv1, qv2, qv3, qv4, qv5, qv6, qv7, qv8, qv9, qv10, qv11, qv12, qv13, a52, a53, a54, a55, a56, a57, a58, a59, a60, a61, a62, a63, a64, a65, a66, a67, a68, a69, a70, a71, a72, a73, a74, a75, a76, a77, a78, a79, a80] [c6, c6, cb0, cb1, cb2, cb3, c6, c6, ct0, ct1, ct2, c11, c12, c13, c6, cs00, c6, cs10, c6, cs20, c6, cs30, c6, cu0, cu1, cu2, cu3, cu4, cu5, cu5, cu5, cu6, cu7, cu8, cu9, cu10, cu11, c6, cv0, cv1, cv2, cv3, cv4, cv5, cv5, cv5, cv6, cv7, cv8, cv9, cv10, cv11, c52, c53, c54, c55, c6, c57, c58, c59, c60, c61, c62, c63, c64, c65, c66, c67, c68, c69, c70, c71, c72, c73, c74, c75, c76, c77]) q → lA s q) := by
  obtain ⟨h1, h2⟩ := lw_inj (f := (lE l D [a0, a1, qb0, qb1, qb2, qb3, a6, a7, qt0, qt1, qt2, a11, a12, a13, a14, qs00, a16, qs10, a18, qs20, a20, qs30, a22, qu0, qu1, qu2, qu3, qu4, qu5, qu6, qu7, qu8, qu9, qu10, qu11, qu12, qu13, a37, qv0, qv1, qv2, qv3, qv4, qv5, qv6, qv7, qv8, qv9, qv10, qv11, qv12, qv13, a52, a53, a54, a55, a56, a57, a58, a59, a60, a61, a62, a63, a64, a65, a66, a67, a68, a69, a70, a71, a72, a73, a74, a75, a76, a77, a78, a79, a80] [c6, c6, cb0, cb1, cb2, cb3, c6, c6, ct0, ct1, ct2, c11, c12, c13, c6, cs00, c6, cs10, c6, cs20, c6, cs30, c6, cu0, cu1, cu2, cu3, cu4, cu5, cu5, cu5, cu6, cu7, cu8, cu9, cu10, cu11, c6, cv0, cv1, cv2, cv3, cv4, cv5, cv5, cv5, cv6, cv7, cv8, cv9, cv10, cv11, c52, c53, c54, c55, c6, c57, c58, c59, c60, c61, c62, c63, c64, c65, c66, c67, c68, c69, c70, c71, c72, c73, c74, c75, c76, c77]).2.2.1) (lw_wD (a78 := a78) (a79 := a79) (a80 := a80) hD) rfl
  exact ⟨h1, fun q ⟨k, hk, e⟩ => by rw [e]; exact h2 k hk⟩
set_option maxRecDepth 100000 in
set_option maxHeartbeats 4000000 in
theorem lw_wH {l : Launch} {D : va_G} {H : Heap} {a0 a56 a78 a79 a80 a1 qb0 qb1 qb2 qb3 a6 a7 qt0 qt1 qt2 a11 a12 a13 a22 qu0 qu1 qu2 qu3 qu4 qu5 qu6 qu7 qu8 qu9 qu10 qu11 qu12 qu13 a37 qv0 qv1 qv2 qv3 qv4 qv5 qv6 qv7 qv8 qv9 qv10 qv11 qv12 qv13 a52 a53 a54 a55 a14 qs00 a16 qs10 a18 qs20 a20 qs30 a57 a58 a59 a60 a61 a62 a63 a64 a65 a66 a67 a68 a69 a70 a71 a72 a73 a74 a75 a76 a77 : Nat} {cb0 cb1 cb2 cb3 c6 ct0 ct1 ct2 c11 c12 c13 cu0 cu1 cu2 cu3 cu4 cu5 cu6 cu7 cu8 cu9 cu10 cu11 cv0 cv1 cv2 cv3 cv4 cv5 cv6 cv7 cv8 cv9 cv10 cv11 c52 c53 c54 c55 cs00 cs10 cs20 cs30 c57 c58 c59 c60 c61 c62 c63 c64 c65 c66 c67 c68 c69 c70 c71 c72 c73 c74 c75 c76 c77 : ClassId} (hP : va_P D jCl [(a0, .inr (4, [.ref a1, .ref a6, .int (jI 0), .ref a7, .ref a11, .ref a12, .int (jI 0), .ref a13, .int (jI 0), .ref a22, .int (jI 1), .ref a37, .ref a52, .ref a53, .ref a54, .ref a55])), (a1, .inr (0, [.ref qb0, .int (jI 0), .int (jI (-1)), .int (jI 0), .ref qb1, .ref qb2, .ref qb3])), (qb0, .inl (cb0, 35, .inl (fun _ => jI 0))), (qb1, .inl (cb1, 9, .inl (fun _ => jI 0))), (qb2, .inl (cb2, 9, .inl (fun _ => jI 0))), (qb3, .inl (cb3, 9, .inl (fun _ => jI 0))), (a6, .inl (c6, 9, .inl (fun j => jI (iH 6 j)))), (a7, .inr (3, [.ref qt0, .ref qt1, .ref qt2, .int (jI 0)])), (qt0, .inl (ct0, 24, .inl (fun _ => jI 0))), (qt1, .inl (ct1, 24, .inl (fun _ => jI 0))), (qt2, .inl (ct2, 24, .inl (fun _ => jI 0))), (a11, .inl (c11, 8, .inl (fun _ => jI 0))), (a12, .inl (c12, 8, .inl (fun _ => jI 0))), (a13, .inl (c13, 4, .inr (.inr (.inr (.inr (g_rf [a14, a16, a18, a20])))))), (a22, .inr (1, [.int (jI 0), .ref qu0, .ref qu1, .ref qu2, .ref qu3, .int (jI 0), .ref qu4, .ref qu8, .ref qu9, .ref qu10, .ref qu11, .ref qu12, .ref qu13, .int (jI 0), .int (jI 0), .int (jI 0)])), (qu0, .inl (cu0, 9, .inl (fun _ => jI 0))), (qu1, .inl (cu1, 9, .inl (fun _ => jI 0))), (qu2, .inl (cu2, 9, .inl (fun _ => jI 0))), (qu3, .inl (cu3, 9, .inl (fun _ => jI 0))), (qu4, .inl (cu4, 3, .inr (.inr (.inr (.inr (g_rf [qu5, qu6, qu7])))))), (qu5, .inl (cu5, 60, .inl (fun _ => jI 0))), (qu6, .inl (cu5, 60, .inl (fun _ => jI 0))), (qu7, .inl (cu5, 60, .inl (fun _ => jI 0))), (qu8, .inl (cu6, 60, .inl (fun _ => jI 0))), (qu9, .inl (cu7, 60, .inl (fun _ => jI 0))), (qu10, .inl (cu8, 9, .inl (fun _ => jI 0))), (qu11, .inl (cu9, 9, .inl (fun _ => jI 0))), (qu12, .inl (cu10, 9, .inl (fun _ => jI 0))), (qu13, .inl (cu11, 9, .inl (fun _ => jI 0))), (a37, .inr (1, [.int (jI 0), .ref qv0, .ref qv1, .ref qv2, .ref qv3, .int (jI 0), .ref qv4, .ref qv8, .ref qv9, .ref qv10, .ref qv11, .ref qv12, .ref qv13, .int (jI 0), .int (jI 0), .int (jI 0)])), (qv0, .inl (cv0, 9, .inl (fun _ => jI 0))), (qv1, .inl (cv1, 9, .inl (fun _ => jI 0))), (qv2, .inl (cv2, 9, .inl (fun _ => jI 0))), (qv3, .inl (cv3, 9, .inl (fun _ => jI 0))), (qv4, .inl (cv4, 3, .inr (.inr (.inr (.inr (g_rf [qv5, qv6, qv7])))))), (qv5, .inl (cv5, 60, .inl (fun _ => jI 0))), (qv6, .inl (cv5, 60, .inl (fun _ => jI 0))), (qv7, .inl (cv5, 60, .inl (fun _ => jI 0))), (qv8, .inl (cv6, 60, .inl (fun _ => jI 0))), (qv9, .inl (cv7, 60, .inl (fun _ => jI 0))), (qv10, .inl (cv8, 9, .inl (fun _ => jI 0))), (qv11, .inl (cv9, 9, .inl (fun _ => jI 0))), (qv12, .inl (cv10, 9, .inl (fun _ => jI 0))), (qv13, .inl (cv11, 9, .inl (fun _ => jI 0))), (a52, .inl (c52, 37, .inl (fun _ => jI 0))), (a53, .inl (c53, 10, .inl (fun _ => jI 0))), (a54, .inl (c54, 9, .inl (fun _ => jI 0))), (a55, .inl (c55, 9, .inl (fun _ => jI 0))), (a14, .inr (2, [.int (jI 1), .int (jI 0), .int (jI 0), .ref qs00])), (qs00, .inl (cs00, 60, .inl (fun _ => jI 0))), (a16, .inr (2, [.int (jI 1), .int (jI 0), .int (jI 0), .ref qs10])), (qs10, .inl (cs10, 60, .inl (fun _ => jI 0))), (a18, .inr (2, [.int (jI 1), .int (jI 0), .int (jI 0), .ref qs20])), (qs20, .inl (cs20, 60, .inl (fun _ => jI 0))), (a20, .inr (2, [.int (jI 1), .int (jI 0), .int (jI 0), .ref qs30])), (qs30, .inl (cs30, 60, .inl (fun _ => jI 0))), (a56, .inr (5, [.ref a57, .ref a58, .ref a59, .ref a60, .int (jI 0), .ref a61, .int (jI 0), .int (jI 0), .int (jI 0), .ref a62, .ref a63, .int (jI 0), .int (jI 0), .ref a64, .ref a65, .ref a66, .ref a67, .ref a68, .ref a69, .ref a70, .ref a71, .int (jI 0), .ref a72, .ref a73, .ref a74, .ref a75, .int (jI 0), .ref a76, .ref a77])), (a57, .inl (c57, 4, .inl (fun j => jI (iH 57 j)))), (a58, .inl (c58, 4, .inl (fun _ => jI 0))), (a59, .inl (c59, 240, .inl (fun _ => jI 0))), (a60, .inl (c60, 60, .inl (fun _ => jI 0))), (a61, .inl (c61, 35, .inl (fun _ => jI 0))), (a62, .inl (c62, 27, .inl (fun _ => jI 0))), (a63, .inl (c63, 9, .inl (fun j => jI (iH 63 j)))), (a64, .inl (c64, 72, .inl (fun _ => jI 0))), (a65, .inl (c65, 180, .inl (fun _ => jI 0))), (a66, .inl (c66, 60, .inl (fun _ => jI 0))), (a67, .inl (c67, 60, .inl (fun _ => jI 0))), (a68, .inl (c68, 540, .inl (fun _ => jI 0))), (a69, .inl (c69, 9, .inl (fun _ => jI 0))), (a70, .inl (c70, 9, .inl (fun _ => jI 0))), (a71, .inl (c71, 9, .inl (fun _ => jI 0))), (a72, .inl (c72, 9, .inl (fun _ => jI 0))), (a73, .inl (c73, 9, .inl (fun _ => jI 0))), (a74, .inl (c74, 6, .inl (fun _ => jI 0))), (a75, .inl (c75, 6, .inl (fun _ => jI 0))), (a76, .inl (c76, 16, .inl (fun _ => jI 0))), (a77, .inl (c77, 10, .inl (fun _ => jI 0)))] H) : jWH (lE l D [a0, a1, qb0, qb1, qb2, qb3, a6, a7, qt0, qt1, qt2, a11, a12, a13, a14, qs00, a16, qs10, a18, qs20, a20, qs30, a22, qu0, qu1, qu2, qu3, qu4, qu5, qu6, qu7, qu8, qu9, qu10, qu11, qu12, qu13, a37, qv0, qv1, qv2, qv3, qv4, qv5, qv6, qv7, qv8, qv9, qv10, qv11, qv12, qv13, a52, a53, a54, a55, a56, a57, a58, a59, a60, a61, a62, a63, a64, a65, a66, a67, a68, a69, a70, a71, a72, a73, a74, a75, a76, a77, a78, a79, a80] [c6, c6, cb0, cb1, cb2, cb3, c6, c6, ct0, ct1, ct2, c11, c12, c13, c6, cs00, c6, cs10, c6, cs20, c6, cs30, c6, cu0, cu1, cu2, cu3, cu4, cu5, cu5, cu5, cu6, cu7, cu8, cu9, cu10, cu11, c6, cv0, cv1, cv2, cv3, cv4, cv5, cv5, cv5, cv6, cv7, cv8, cv9, cv10, cv11, c52, c53, c54, c55, c6, c57, c58, c59, c60, c61, c62, c63, c64, c65, c66, c67, c68, c69, c70, c71, c72, c73, c74, c75, c76, c77]) iH H := by
  refine ⟨?_, iH_r⟩
  generalize hE : (lE l D [a0, a1, qb0, qb1, qb2, qb3, a6, a7, qt0, qt1, qt2, a11, a12, a13, a14, qs00, a16, qs10, a18, qs20, a20, qs30, a22, qu0, qu1, qu2, qu3, qu4, qu5, qu6, qu7, qu8, qu9, qu10, qu11, qu12, qu13, a37, qv0, qv1, qv2, qv3, qv4, qv5, qv6, qv7, qv8, qv9, qv10, qv11, qv12, qv13, a52, a53, a54, a55, a56, a57, a58, a59, a60, a61, a62, a63, a64, a65, a66, a67, a68, a69, a70, a71, a72, a73, a74, a75, a76, a77, a78, a79, a80] [c6, c6, cb0, cb1, cb2, cb3, c6, c6, ct0, ct1, ct2, c11, c12, c13, c6, cs00, c6, cs10, c6, cs20, c6, cs30, c6, cu0, cu1, cu2, cu3, cu4, cu5, cu5, cu5, cu6, cu7, cu8, cu9, cu10, cu11, c6, cv0, cv1, cv2, cv3, cv4, cv5, cv5, cv5, cv6, cv7, cv8, cv9, cv10, cv11, c52, c53, c54, c55, c6, c57, c58, c59, c60, c61, c62, c63, c64, c65, c66, c67, c68, c69, c70, c71, c72, c73, c74, c75, c76, c77]) = E
  show va_P E.2.1 jCl ((List.range 78).map (fun k => (E.2.2.1 k, jCell E iH k))) H
  rw [show List.range 78 = [0, 1, 2, 3, 4, 5, 6, 7, 8, 9, 10, 11, 12, 13, 14, 15, 16, 17, 18, 19, 20, 21, 22, 23, 24, 25, 26, 27, 28, 29, 30, 31, 32, 33, 34, 35, 36, 37, 38, 39, 40, 41, 42, 43, 44, 45, 46, 47, 48, 49, 50, 51, 52, 53, 54, 55, 56, 57, 58, 59, 60, 61, 62, 63, 64, 65, 66, 67, 68, 69, 70, 71, 72, 73, 74, 75, 76, 77] from rfl]
  simp only [List.map_cons, List.map_nil]
  subst hE
  refine mkPc ?_ (mkPc ?_ (mkPc ?_ (mkPc ?_ (mkPc ?_ (mkPc ?_ (mkPc ?_ (mkPc ?_ (mkPc ?_ (mkPc ?_ (mkPc ?_ (mkPc ?_ (mkPc ?_ (mkPc ?_ (mkPc ?_ (mkPc ?_ (mkPc ?_ (mkPc ?_ (mkPc ?_ (mkPc ?_ (mkPc ?_ (mkPc ?_ (mkPc ?_ (mkPc ?_ (mkPc ?_ (mkPc ?_ (mkPc ?_ (mkPc ?_ (mkPc ?_ (mkPc ?_ (mkPc ?_ (mkPc ?_ (mkPc ?_ (mkPc ?_ (mkPc ?_ (mkPc ?_ (mkPc ?_ (mkPc ?_ (mkPc ?_ (mkPc ?_ (mkPc ?_ (mkPc ?_ (mkPc ?_ (mkPc ?_ (mkPc ?_ (mkPc ?_ (mkPc ?_ (mkPc ?_ (mkPc ?_ (mkPc ?_ (mkPc ?_ (mkPc ?_ (mkPc ?_ (mkPc ?_ (mkPc ?_ (mkPc ?_ (mkPc ?_ (mkPc ?_ (mkPc ?_ (mkPc ?_ (mkPc ?_ (mkPc ?_ (mkPc ?_ (mkPc ?_ (mkPc ?_ (mkPc ?_ (mkPc ?_ (mkPc ?_ (mkPc ?_ (mkPc ?_ (mkPc ?_ (mkPc ?_ (mkPc ?_ (mkPc ?_ (mkPc ?_ (mkPc ?_ (mkPc ?_ (mkPc ?_ (mkPn))))))))))))))))))))))))))))))))))))))))))))))))))))))))))))))))))))))))))))))
  · rw [jCell_o _ _ (show j_shp 0 = .inr (.inr 4) from rfl), ofl_0]
    exact hP 0 _ rfl
  · rw [jCell_o _ _ (show j_shp 1 = .inr (.inr 0) from rfl), ofl_1]
    exact hP 1 _ rfl
  · rw [jCell_a _ _ (show j_shp 2 = .inl 35 from rfl)]
    exact hP 2 _ rfl
  · rw [jCell_a _ _ (show j_shp 3 = .inl 9 from rfl)]
    exact hP 3 _ rfl
  · rw [jCell_a _ _ (show j_shp 4 = .inl 9 from rfl)]
    exact hP 4 _ rfl
  · rw [jCell_a _ _ (show j_shp 5 = .inl 9 from rfl)]
    exact hP 5 _ rfl
  · rw [jCell_a _ _ (show j_shp 6 = .inl 9 from rfl)]
    exact hP 6 _ rfl
  · rw [jCell_o _ _ (show j_shp 7 = .inr (.inr 3) from rfl), ofl_7]
    exact hP 7 _ rfl
  · rw [jCell_a _ _ (show j_shp 8 = .inl 24 from rfl)]
    exact hP 8 _ rfl
  · rw [jCell_a _ _ (show j_shp 9 = .inl 24 from rfl)]
    exact hP 9 _ rfl
  · rw [jCell_a _ _ (show j_shp 10 = .inl 24 from rfl)]
    exact hP 10 _ rfl
  · rw [jCell_a _ _ (show j_shp 11 = .inl 8 from rfl)]
    exact hP 11 _ rfl
  · rw [jCell_a _ _ (show j_shp 12 = .inl 8 from rfl)]
    exact hP 12 _ rfl
  · rw [jCell_r _ _ (show j_shp 13 = .inr (.inl 4) from rfl), rf_13]
    exact hP 13 _ rfl
  · rw [jCell_o _ _ (show j_shp 14 = .inr (.inr 2) from rfl), ofl_14]
    exact hP 48 _ rfl
  · rw [jCell_a _ _ (show j_shp 15 = .inl 60 from rfl)]
    exact hP 49 _ rfl
  · rw [jCell_o _ _ (show j_shp 16 = .inr (.inr 2) from rfl), ofl_16]
    exact hP 50 _ rfl
  · rw [jCell_a _ _ (show j_shp 17 = .inl 60 from rfl)]
    exact hP 51 _ rfl
  · rw [jCell_o _ _ (show j_shp 18 = .inr (.inr 2) from rfl), ofl_18]
    exact hP 52 _ rfl
  · rw [jCell_a _ _ (show j_shp 19 = .inl 60 from rfl)]
    exact hP 53 _ rfl
  · rw [jCell_o _ _ (show j_shp 20 = .inr (.inr 2) from rfl), ofl_20]
    exact hP 54 _ rfl
  · rw [jCell_a _ _ (show j_shp 21 = .inl 60 from rfl)]
    exact hP 55 _ rfl
  · rw [jCell_o _ _ (show j_shp 22 = .inr (.inr 1) from rfl), ofl_22]
    exact hP 14 _ rfl
  · rw [jCell_a _ _ (show j_shp 23 = .inl 9 from rfl)]
    exact hP 15 _ rfl
  · rw [jCell_a _ _ (show j_shp 24 = .inl 9 from rfl)]
    exact hP 16 _ rfl
  · rw [jCell_a _ _ (show j_shp 25 = .inl 9 from rfl)]
    exact hP 17 _ rfl
  · rw [jCell_a _ _ (show j_shp 26 = .inl 9 from rfl)]
    exact hP 18 _ rfl
  · rw [jCell_r _ _ (show j_shp 27 = .inr (.inl 3) from rfl), rf_27]
    exact hP 19 _ rfl
  · rw [jCell_a _ _ (show j_shp 28 = .inl 60 from rfl)]
    exact hP 20 _ rfl
  · rw [jCell_a _ _ (show j_shp 29 = .inl 60 from rfl)]
    exact hP 21 _ rfl
  · rw [jCell_a _ _ (show j_shp 30 = .inl 60 from rfl)]
    exact hP 22 _ rfl
  · rw [jCell_a _ _ (show j_shp 31 = .inl 60 from rfl)]
    exact hP 23 _ rfl
  · rw [jCell_a _ _ (show j_shp 32 = .inl 60 from rfl)]
    exact hP 24 _ rfl
  · rw [jCell_a _ _ (show j_shp 33 = .inl 9 from rfl)]
    exact hP 25 _ rfl
  · rw [jCell_a _ _ (show j_shp 34 = .inl 9 from rfl)]
    exact hP 26 _ rfl
  · rw [jCell_a _ _ (show j_shp 35 = .inl 9 from rfl)]
    exact hP 27 _ rfl
  · rw [jCell_a _ _ (show j_shp 36 = .inl 9 from rfl)]
    exact hP 28 _ rfl
  · rw [jCell_o _ _ (show j_shp 37 = .inr (.inr 1) from rfl), ofl_37]
    exact hP 29 _ rfl
  · rw [jCell_a _ _ (show j_shp 38 = .inl 9 from rfl)]
    exact hP 30 _ rfl
  · rw [jCell_a _ _ (show j_shp 39 = .inl 9 from rfl)]
    exact hP 31 _ rfl
  · rw [jCell_a _ _ (show j_shp 40 = .inl 9 from rfl)]
    exact hP 32 _ rfl
  · rw [jCell_a _ _ (show j_shp 41 = .inl 9 from rfl)]
    exact hP 33 _ rfl
  · rw [jCell_r _ _ (show j_shp 42 = .inr (.inl 3) from rfl), rf_42]
    exact hP 34 _ rfl
  · rw [jCell_a _ _ (show j_shp 43 = .inl 60 from rfl)]
    exact hP 35 _ rfl
  · rw [jCell_a _ _ (show j_shp 44 = .inl 60 from rfl)]
    exact hP 36 _ rfl
  · rw [jCell_a _ _ (show j_shp 45 = .inl 60 from rfl)]
    exact hP 37 _ rfl
  · rw [jCell_a _ _ (show j_shp 46 = .inl 60 from rfl)]
    exact hP 38 _ rfl
  · rw [jCell_a _ _ (show j_shp 47 = .inl 60 from rfl)]
    exact hP 39 _ rfl
  · rw [jCell_a _ _ (show j_shp 48 = .inl 9 from rfl)]
    exact hP 40 _ rfl
  · rw [jCell_a _ _ (show j_shp 49 = .inl 9 from rfl)]
    exact hP 41 _ rfl
  · rw [jCell_a _ _ (show j_shp 50 = .inl 9 from rfl)]
    exact hP 42 _ rfl
  · rw [jCell_a _ _ (show j_shp 51 = .inl 9 from rfl)]
    exact hP 43 _ rfl
  · rw [jCell_a _ _ (show j_shp 52 = .inl 37 from rfl)]
    exact hP 44 _ rfl
  · rw [jCell_a _ _ (show j_shp 53 = .inl 10 from rfl)]
    exact hP 45 _ rfl
  · rw [jCell_a _ _ (show j_shp 54 = .inl 9 from rfl)]
    exact hP 46 _ rfl
  · rw [jCell_a _ _ (show j_shp 55 = .inl 9 from rfl)]
    exact hP 47 _ rfl
  · rw [jCell_o _ _ (show j_shp 56 = .inr (.inr 5) from rfl), ofl_56]
    exact hP 56 _ rfl
  · rw [jCell_a _ _ (show j_shp 57 = .inl 4 from rfl)]
    exact hP 57 _ rfl
  · rw [jCell_a _ _ (show j_shp 58 = .inl 4 from rfl)]
    exact hP 58 _ rfl
  · rw [jCell_a _ _ (show j_shp 59 = .inl 240 from rfl)]
    exact hP 59 _ rfl
  · rw [jCell_a _ _ (show j_shp 60 = .inl 60 from rfl)]
    exact hP 60 _ rfl
  · rw [jCell_a _ _ (show j_shp 61 = .inl 35 from rfl)]
    exact hP 61 _ rfl
  · rw [jCell_a _ _ (show j_shp 62 = .inl 27 from rfl)]
    exact hP 62 _ rfl
  · rw [jCell_a _ _ (show j_shp 63 = .inl 9 from rfl)]
    exact hP 63 _ rfl
  · rw [jCell_a _ _ (show j_shp 64 = .inl 72 from rfl)]
    exact hP 64 _ rfl
  · rw [jCell_a _ _ (show j_shp 65 = .inl 180 from rfl)]
    exact hP 65 _ rfl
  · rw [jCell_a _ _ (show j_shp 66 = .inl 60 from rfl)]
    exact hP 66 _ rfl
  · rw [jCell_a _ _ (show j_shp 67 = .inl 60 from rfl)]
    exact hP 67 _ rfl
  · rw [jCell_a _ _ (show j_shp 68 = .inl 540 from rfl)]
    exact hP 68 _ rfl
  · rw [jCell_a _ _ (show j_shp 69 = .inl 9 from rfl)]
    exact hP 69 _ rfl
  · rw [jCell_a _ _ (show j_shp 70 = .inl 9 from rfl)]
    exact hP 70 _ rfl
  · rw [jCell_a _ _ (show j_shp 71 = .inl 9 from rfl)]
    exact hP 71 _ rfl
  · rw [jCell_a _ _ (show j_shp 72 = .inl 9 from rfl)]
    exact hP 72 _ rfl
  · rw [jCell_a _ _ (show j_shp 73 = .inl 9 from rfl)]
    exact hP 73 _ rfl
  · rw [jCell_a _ _ (show j_shp 74 = .inl 6 from rfl)]
    exact hP 74 _ rfl
  · rw [jCell_a _ _ (show j_shp 75 = .inl 6 from rfl)]
    exact hP 75 _ rfl
  · rw [jCell_a _ _ (show j_shp 76 = .inl 16 from rfl)]
    exact hP 76 _ rfl
  · rw [jCell_a _ _ (show j_shp 77 = .inl 10 from rfl)]
    exact hP 77 _ rfl
