/-! ===== the start ===== -/
theorem iH_6 {j : Int} (h0 : 0 ≤ j) (h1 : j < 9) : iH 6 j = j := by
  show (if 0 ≤ j ∧ j < 9 then j else 0) = j
  rw [if_pos ⟨h0, h1⟩]
theorem iH_57 {j : Int} (h0 : 0 ≤ j) (h1 : j < 4) : iH 57 j = -1 := by
  show (if 0 ≤ j ∧ j < 4 then (-1 : Int) else 0) = -1
  rw [if_pos ⟨h0, h1⟩]
theorem iH_r : jR iH := by
  intro k i
  unfold iH
  repeat' split
  all_goals omega
theorem iH_rel : REL iH := by
  have e11 : iH 1 1 = 0 := rfl
  have e12 : iH 1 2 = -1 := rfl
  have e13 : iH 1 3 = 0 := rfl
  have e73 : iH 7 3 = 0 := rfl
  have e06 : iH 0 6 = 0 := rfl
  have e02 : iH 0 2 = 0 := rfl
  have e010 : iH 0 10 = 1 := rfl
  refine ⟨⟨⟨⟨?_, ?_, ?_, ?_, ?_, ?_, ?_⟩, ?_⟩, ⟨?_, ?_, rfl, ?_, ?_, rfl, ?_⟩⟩, ?_⟩
  · exact ⟨by omega, fun q h0 h1 => by omega⟩
  · refine ⟨Or.inr (Or.inl ⟨fun q h0 h1 => by omega, Or.inl e11, e12⟩), ?_, fun b h0 h1 => by omega⟩
    rw [e13, if_pos e12, e11]
    decide
  · refine ⟨?_, fun b h0 h1 => ⟨b, h0, h1, iH_6 h0 h1⟩⟩
    refine ⟨fun p h0 h1 => ?_, fun p q h0 h1 h2 h3 h => ?_⟩
    · rw [iH_6 h0 h1]; omega
    · rwa [iH_6 h0 h1, iH_6 h2 h3] at h
  · rw [e02]; decide
  · exact ⟨by omega, fun q h0 h1 => by omega⟩
  · exact ⟨by omega, fun q h0 h1 => by omega⟩
  · intro k l h
    rcases h with ⟨rfl, rfl⟩ | ⟨rfl, rfl⟩ | ⟨rfl, rfl⟩ | ⟨rfl, rfl⟩ <;> exact ⟨Or.inr rfl, by decide, by decide⟩
  · exact ⟨Or.inr e010, fun h => absurd h (by rw [e010]; decide)⟩
  · exact ⟨rfl, fun i h0 h1 => by omega⟩
  · exact fun p h0 h1 => rfl
  · exact ⟨rfl, fun q h0 h1 => by omega⟩
  · exact ⟨rfl, fun q h0 h1 => by omega⟩
  · intro s h0 h1
    have e58 : iH 58 s = 0 := rfl
    rw [iH_57 h0 h1, e58]
    decide
  · intro s k l h
    have e58 : iH 58 s = 0 := rfl
    rcases h with ⟨rfl, rfl, rfl⟩ | ⟨rfl, rfl, rfl⟩ | ⟨rfl, rfl, rfl⟩ | ⟨rfl, rfl, rfl⟩ <;> exact ⟨fun h => absurd h (by decide), fun _ => rfl, by decide⟩
/-- what lies outside the world: the text "telwx", two statics, the row of DIGEST_STEPS -/
theorem lw_old {p : Program} {s : State} {m : MethodId} {meth : Method} {c : Code} {b L : Nat} {xs : Nat → Int32} (C0 : lw_At p s m meth c b L xs) : ∃ a78 a79 a80 : Nat, vk_R RX0 38 "telwx" a78 s ∧ vk_S 1 [5] [[116, 101, 108, 119, 120]] (fun _ => a78) (fun _ => a79) (lA s) s s.heap ∧ va_Z "java/lang/String" "COMPACT_STRINGS" "Z" (.int 1) (lA s) s s.heap ∧ va_Z RX4 "DIGEST_STEPS" "[I" (.ref a80) (lA s) s s.heap ∧ va_T .int a80 5 (fun j => .int (jI (jDig j))) (lA s) s s.heap := by
  obtain ⟨hx, hb, hr, hml, hown, hts, hX, hbl, hlocks, hgv⟩ := C0
  have hs := flat_of_before _ hgv
  have hA : ∀ a : Nat, a < s.heap.size → ¬ lA s a := fun a h q => Nat.not_le.mpr h q
  have i0 : ∀ i : Nat, i < 1 → i = 0 := fun i h => by omega
  obtain ⟨adK, adV, hS, hT⟩ := vk_Sof (args := #[Value.ref b]) (s := s) (N := 1) (tm := fun _ => .string RX0 38) (len := [5]) (byt := [[116, 101, 108, 119, 120]]) (A := lA s) (fun i hi => by rw [i0 i hi]; decide) (fun i hi => hs _ (by decide +kernel)) (fun i hi => hs _ (by decide +kernel)) (fun i hi => hs _ (by decide +kernel)) (fun i hi => by rw [i0 i hi]; exact hs _ (by decide +kernel)) (fun i hi j hj => by
      rw [i0 i hi] at hj ⊢
      have hj : j < 5 := hj
      rcases (by omega : j = 0 ∨ j = 1 ∨ j = 2 ∨ j = 3 ∨ j = 4) with rfl | rfl | rfl | rfl | rfl <;> exact hs _ (by decide +kernel)) (fun i j hi hj h => absurd ((i0 i hi).trans (i0 j hj).symm) h) hA
  obtain ⟨a80, ht, hTT⟩ := va_Tof (args := #[Value.ref b]) (s := s) (tm := .static RX4 "DIGEST_STEPS" "[I") (ty := .int) (N := 5) (f := fun j => .int (jI (jDig j))) (A := lA s) (by decide) (hs _ (by decide +kernel)) (va_eqt (hs _ (by decide +kernel))) (fun j hj => by
      rcases (by omega : j = 0 ∨ j = 1 ∨ j = 2 ∨ j = 3 ∨ j = 4) with rfl | rfl | rfl | rfl | rfl <;> exact va_eqt (hs _ (by decide +kernel))) hA
  refine ⟨adK 0, adV 0, a80, vk_R.of (A := #[Value.ref b]) (hts _ (List.mem_append_right _ (List.mem_of_getElem? (l := tables_1) (i := 242) (by decide +kernel)))) (hT 0 (by decide)), ⟨fun i hi => by rw [i0 i hi]; exact hS.1 0 (by decide), fun i j hi hj _ => by omega⟩, va_Zof (hts _ (List.mem_append_right _ (List.mem_of_getElem? (l := tables_1) (i := 256) (by decide +kernel)))) (hts _ (List.mem_append_right _ (List.mem_of_getElem? (l := tables_1) (i := 7) (by decide +kernel)))) (va_eqi (hs _ (by decide +kernel))) hA, va_Zof (hts _ (List.mem_append_right _ (List.mem_of_getElem? (l := tables_1) (i := 660) (by decide +kernel)))) (hts _ (List.mem_append_right _ (List.mem_of_getElem? (l := tables_1) (i := 1) (by decide +kernel)))) ht hA, hTT⟩
theorem g_AO_of {A : Array Value} {U : State} (h : (Cond.arrayOver (.array .int)).before A U = true) : va_Nw (.arrayOver (.array .int)) U := h
theorem lw_nest {p : Program} {s : State} {m : MethodId} {meth : Method} {c : Code} {b L : Nat} {xs : Nat → Int32} (C0 : lw_At p s m meth c b L xs) : mkNest s := by
  have hts := C0.2.2.2.2.2.1
  exact ⟨va_Nw.of rfl (hts _ (List.mem_append_right _ (List.mem_of_getElem? (l := tables_1) (i := 26) (by decide +kernel)))), va_Nw.of rfl (hts _ (List.mem_append_right _ (List.mem_of_getElem? (l := tables_1) (i := 66) (by decide +kernel)))), va_Nw.of rfl (hts _ (List.mem_append_right _ (List.mem_of_getElem? (l := tables_1) (i := 92) (by decide +kernel)))), va_Nw.of rfl (hts _ (List.mem_append_right _ (List.mem_of_getElem? (l := tables_1) (i := 153) (by decide +kernel)))), va_AO.of (hts _ (List.mem_append_right _ (List.mem_of_getElem? (l := tables_1) (i := 89) (by decide +kernel)))), g_AO_of (hts _ (List.mem_append_right _ (List.mem_of_getElem? (l := tables_1) (i := 97) (by decide +kernel))))⟩
/-- a new object of the law's is given to its constructor -/
theorem lw_make {p : Program} {l : Launch} {e : Env} {s : State} {m : MethodId} {below : List Frame} {meth : Method} {c : Code} {b L : Nat} {xs : Nat → Int32} (C0 : lw_At p s m meth c b L xs) {D : va_G} {ws : va_W} {tys : mkT} {H : Heap} {locs : List Loc} {cells slots pc : Nat} {ls : Array Slot} {rest : List Value} {Q : State → Prop} {y : MethodName} {bs : ByteArray} {nl fr lo ix q ci mc' ms' : Nat} {fs : List Value} {Φ' : va_W → mkT → Prop}
    (hK : va_K D jCl tys s) (hP : va_P D jCl (ws ++ [(q, .inr (ci, fs))]) H) (hD : va_D (lA s) (ws ++ [(q, .inr (ci, fs))])) (hS : va_S (lA s) s.heap H locs) (hd : decode code pc = .ok (.invokespecial ix, 3)) (hl : Cond.initialized y.cls ∈ jW ∧ Cond.code y bs nl none ∈ jW ∧ (y.cls ≠ "java/lang/invoke/MethodHandle" ∧ y.cls ≠ "java/lang/invoke/VarHandle" ∧ (parseMethodDescriptor y.desc).map (fun d => d.parameters.length) = some 0) ∧ Cond.instanceMethod y ∈ jW) (hlk : Cond.methodLink RL ix y ∈ jW) (hy : y.name = "<init>") (hf : lFit (y, bs, nl, none, fr, lo) = true) (hcat : jCat rest = true) (hsz : ls.size = 4) (hc : Nat.ble (cells + mc') 600000 = true) (hs : Nat.ble (slots + ms') 7302249 = true) (hok : mkOk l D (y, bs, nl, none, fr, lo) mc' ms' q ci fs Φ')
    (k : ∀ (ws1 : va_W) (tys1 : mkT) (H1 : Heap) (locs1 : List Loc), Φ' ws1 tys1 → va_K D jCl (tys ++ tys1) s → va_P D jCl (ws ++ ws1) H1 → va_D (lA s) (ws ++ ws1) → va_S (lA s) s.heap H1 locs1 → W p l e room_1 s m #[Value.ref b] below meth c H1 locs1 (cells + mc') (slots + ms') Q (F0 m (pc + 3) ls rest)) : W p l e room_1 s m #[Value.ref b] below meth c H locs cells slots Q (F0 m pc ls (.ref q :: rest)) := by
  have hN := lw_nest C0
  obtain ⟨hx, hb, hr, hml, hown, hts, hX, hbl, hlocks, hgv⟩ := C0
  obtain ⟨hPc, hDc⟩ := mkLast hP hD
  have hFc := va_free (wc := [(q, .inr (ci, fs))]) hD hS (fun _ h => h) [ws.length] (by simp)
  have cw := cwI (R := room_1) (args := #[Value.ref b]) (own := RL) (index := ix) (rm := mkR (y, bs, nl, none, fr, lo) mc' ms') (ws := jWd (y, bs, nl, none, fr, lo)) (mc := mc') (ms := ms') 0 hts (lGood (me' := (y, bs, nl, none, fr, lo)) hl.2.1) rfl rfl rfl (hts _ (jIn hl.1)) (hts _ (jIn hlk)) (hts _ (jIn hl.2.2.2)) hy hl.2.2.1 (lFit_of hf)
  refine va_callv (va_runI (As := []) (rest := rest) (own := RL) (nL := 4) ⟨hx, hb, hml, hown, hts⟩ (hok H.size) cw ⟨fun a U g mk z => by obtain ⟨z0, z1, zP, zK, zD, zN⟩ := z; exact ⟨z0, z1, zP, va_K.moved (u := U) (U := U.calling g mk a) (Vm.Alike.refl U.vm) zK, zD, zN.blind⟩, fun U hU hW => ⟨rfl, by rw [hU], by rw [hU]; exact hPc, va_K.moved hW.alike (hK.sub (tys' := []) [] rfl), hDc, hN.go hW⟩⟩ rfl rfl hsz rfl (lv_room (Nat.le_of_ble_eq_true hcat)) hd ⟨Nat.le_of_ble_eq_true hc, Nat.le_of_ble_eq_true hs⟩) hS (fun q _ h => hFc q h) hFc (fun u t H1 locs1 ht hvm hw hB hz1 hk1 hS => ?_)
  obtain ⟨ws1, tys1⟩ := u
  obtain ⟨hP1, hK1, hD1⟩ := hB
  rw [ht] at hP1
  have hK1 := va_K.moved hvm.symm hK1
  obtain ⟨hP2, hD2⟩ := mkJoin hP hD hk1 hFc hP1 hD1
  exact k ws1 tys1 H1 locs1 hw (hK.app hK1) hP2 hD2 hS
