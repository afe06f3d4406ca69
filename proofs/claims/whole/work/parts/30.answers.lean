/-! ===== the answers of the questions, each one alone ===== -/
def anBox (H : jH) (b w r : Int) : Prop := (¬ (0 ≤ b ∧ b < H 1 3 ∧ 0 ≤ w ∧ w < 3) ∧ r = -2) ∨ ((0 ≤ b ∧ b < H 1 3) ∧ w = 0 ∧ r = H 3 b) ∨ ((0 ≤ b ∧ b < H 1 3) ∧ w = 1 ∧ r = H 4 b) ∨ ((0 ≤ b ∧ b < H 1 3) ∧ w = 2 ∧ r = H 5 b)
def anStep (H : jH) (t w r : Int) : Prop := (¬ (0 ≤ t ∧ t < 60 ∧ (w = 0 ∨ w = 1)) ∧ r = -2) ∨ ((0 ≤ t ∧ t < 60) ∧ w = 0 ∧ r = pO (cfg H) t) ∨ ((0 ≤ t ∧ t < 60) ∧ w = 1 ∧ r = pU (cfg H) t)
def anSpring (H : jH) (t b r : Int) : Prop := (¬ (0 ≤ t ∧ t < 60 ∧ 0 ≤ b ∧ b < H 1 3) ∧ r = -2) ∨ ((0 ≤ t ∧ t < 60 ∧ 0 ≤ b ∧ b < H 1 3) ∧ r = H 5 b - sumI (fun s => if bt (pO (cfg H) s) b then 1 else 0) (t + 1))
def anQuiet (H : jH) (r : Int) : Prop := isQuiet (pO (cfg H)) r
def anLoud (H : jH) (w r : Int) : Prop := (¬ (w = 0 ∨ w = 1) ∧ r = -2) ∨ ((w = 0 ∨ w = 1) ∧ isLoud (pO (cfg H)) w r)
def anFirst (H : jH) (b r : Int) : Prop := (¬ (0 ≤ b ∧ b < H 1 3) ∧ r = -2) ∨ ((0 ≤ b ∧ b < H 1 3) ∧ isFst (fun s => bt (pO (cfg H) s) b = true) 0 60 r)
def anTog (H : jH) (a b r : Int) : Prop := (¬ (0 ≤ a ∧ a < H 1 3 ∧ 0 ≤ b ∧ b < H 1 3 ∧ a ≠ b) ∧ r = -2) ∨ ((0 ≤ a ∧ a < H 1 3 ∧ 0 ≤ b ∧ b < H 1 3 ∧ a ≠ b) ∧ r = sumI (fun s => if bt (pU (cfg H) s) a && bt (pU (cfg H) s) b then 1 else 0) 60)
def anHears (H : jH) (b t r : Int) : Prop := (¬ (0 ≤ b ∧ b < H 1 3 ∧ 0 ≤ t ∧ t < 60) ∧ r = -2) ∨ ((0 ≤ b ∧ b < H 1 3 ∧ 0 ≤ t ∧ t < 60) ∧ r = hv (pU (cfg H)) (bShl 1 b) t 60)
def anNews (H : jH) (a t b r : Int) : Prop := (¬ (0 ≤ a ∧ a < H 1 3 ∧ 0 ≤ b ∧ b < H 1 3 ∧ a ≠ b ∧ 0 ≤ t ∧ t < 60) ∧ r = -2) ∨ ((0 ≤ a ∧ a < H 1 3 ∧ 0 ≤ b ∧ b < H 1 3 ∧ a ≠ b ∧ 0 ≤ t ∧ t < 60) ∧ isFst (fun s => bt (hv (pU (cfg H)) (bShl 1 a) t (s + 1)) b = true) t 60 r)
def anHush (H : jH) (t w r : Int) : Prop := (¬ (0 ≤ t ∧ t < 60 ∧ (w = 0 ∨ w = 1)) ∧ r = -2) ∨ ((0 ≤ t ∧ t < 60 ∧ (w = 0 ∨ w = 1)) ∧ isHush (cfg H) (H 0 2) t w r)
def anShelf (H : jH) (n L i r : Int) : Prop := (¬ (1 ≤ n ∧ n ≤ 6 ∧ n ≤ H 1 3 ∧ (L = 0 ∨ L = 1) ∧ -1 ≤ i ∧ i < n) ∧ r = -2) ∨ ((1 ≤ n ∧ n ≤ 6 ∧ n ≤ H 1 3 ∧ (L = 0 ∨ L = 1) ∧ -1 ≤ i ∧ i < n) ∧ isShf (cfg H) n L i r)
def anLearn (H : jH) (b i r : Int) : Prop := (¬ (0 ≤ b ∧ b < H 1 3 ∧ -1 ≤ i ∧ i < 37) ∧ r = -2) ∨ ((0 ≤ b ∧ b < H 1 3) ∧ i = -1 ∧ r = cntI (gdB H b) 41) ∨ ((0 ≤ b ∧ b < H 1 3) ∧ (0 ≤ i ∧ i < 37) ∧ i < cntI (gdB H b) 41 ∧ 0 ≤ r ∧ r < 41 ∧ gdB H b r = true ∧ cntI (gdB H b) r = i) ∨ ((0 ≤ b ∧ b < H 1 3) ∧ (0 ≤ i ∧ i < 37) ∧ cntI (gdB H b) 41 ≤ i ∧ r = -1)
def anEmpty (H : jH) (r : Int) : Prop := r = mkI (fun b => asB (H 11) (H 12) (H 0 6) (kLaw (cfg H) b 4 (H 4 b))) (H 1 3)
def anTurn (H : jH) (b s r : Int) : Prop := (¬ (0 ≤ b ∧ b < H 1 3 ∧ 0 ≤ s ∧ s < 60) ∧ r = -2) ∨ ((0 ≤ b ∧ b < H 1 3 ∧ 0 ≤ s ∧ s < 60) ∧ ∃ g : Int → Int, (∀ u, 0 ≤ u → u < H 1 3 → isGa (gdB H b) (oT (cfg H) b s u) 41 (g u)) ∧ isArg g (H 1 3) r)
def anLooks (H : jH) (c b t w r : Int) : Prop := (¬ (0 ≤ c ∧ c ≤ 16 ∧ 0 ≤ b ∧ b < H 1 3 ∧ 0 ≤ t ∧ t < 10 ∧ (w = 0 ∨ w = 1)) ∧ r = -9223372036854775806) ∨ ((0 ≤ c ∧ c ≤ 16 ∧ 0 ≤ b ∧ b < H 1 3 ∧ 0 ≤ t ∧ t < 10 ∧ (w = 0 ∨ w = 1)) ∧ r = lkR (cfg H) c b t w)
def anNight (H : jH) (x t w r : Int) : Prop := (¬ (0 ≤ t ∧ t < 60 ∧ (w = 0 ∨ w = 1)) ∧ r = -2) ∨ ((0 ≤ t ∧ t < 60) ∧ w = 0 ∧ r = sumI (fun s => oc (pO (kNgt (cfg H) x t) s)) (t + 1)) ∨ ((0 ≤ t ∧ t < 60) ∧ w = 1 ∧ r = pU (kNgt (cfg H) x t) t)
theorem anBox_one {H : jH} {b w r r2 : Int} (h : anBox H b w r) (h2 : anBox H b w r2) : r = r2 := by unfold anBox at h h2; omega
theorem anStep_one {H : jH} {t w r r2 : Int} (h : anStep H t w r) (h2 : anStep H t w r2) : r = r2 := by unfold anStep at h h2; omega
theorem anSpring_one {H : jH} {t b r r2 : Int} (h : anSpring H t b r) (h2 : anSpring H t b r2) : r = r2 := by unfold anSpring at h h2; omega
theorem anQuiet_one {H : jH} {r r2 : Int} (h : anQuiet H r) (h2 : anQuiet H r2) : r = r2 := isQuiet_one (fun _ _ _ => rfl) h h2
theorem anLoud_one {H : jH} {w r r2 : Int} (h : anLoud H w r) (h2 : anLoud H w r2) : r = r2 := by
  rcases h with ⟨a, b⟩ | ⟨a, b⟩ <;> rcases h2 with ⟨a2, b2⟩ | ⟨a2, b2⟩
  · omega
  · exact absurd a2 a
  · exact absurd a a2
  · exact isLoud_one (fun _ _ _ => rfl) b b2
theorem anFirst_one {H : jH} {b r r2 : Int} (h : anFirst H b r) (h2 : anFirst H b r2) : r = r2 := by
  rcases h with ⟨a, b⟩ | ⟨a, b⟩ <;> rcases h2 with ⟨a2, b2⟩ | ⟨a2, b2⟩
  · omega
  · exact absurd a2 a
  · exact absurd a a2
  · exact isFst_one (fun _ _ _ => Iff.rfl) b b2
theorem anTog_one {H : jH} {a b r r2 : Int} (h : anTog H a b r) (h2 : anTog H a b r2) : r = r2 := by unfold anTog at h h2; omega
theorem anHears_one {H : jH} {b t r r2 : Int} (h : anHears H b t r) (h2 : anHears H b t r2) : r = r2 := by unfold anHears at h h2; omega
theorem anNews_one {H : jH} {a t b r r2 : Int} (h : anNews H a t b r) (h2 : anNews H a t b r2) : r = r2 := by
  rcases h with ⟨a, b⟩ | ⟨a, b⟩ <;> rcases h2 with ⟨a2, b2⟩ | ⟨a2, b2⟩
  · omega
  · exact absurd a2 a
  · exact absurd a a2
  · exact isFst_one (fun _ _ _ => Iff.rfl) b b2
theorem isHush_one {K : jH} {lid t w r r2 : Int} (h : isHush K lid t w r) (h2 : isHush K lid t w r2) : r = r2 := by
  rcases h with ⟨m, a1, a2, a3, a4⟩ | ⟨a1, a2⟩ <;> rcases h2 with ⟨m2, b1, b2, b3, b4⟩ | ⟨b1, b2⟩
  · have e1 := a3 m2 b1 b2
    have e2 := b3 m a1 a2
    have : m = m2 := by omega
    subst this
    rw [a4, b4]
  · exact absurd a2 (b1 m a1)
  · exact absurd b2 (a1 m2 b1)
  · omega
theorem anHush_one {H : jH} {t w r r2 : Int} (h : anHush H t w r) (h2 : anHush H t w r2) : r = r2 := by
  rcases h with ⟨a, b⟩ | ⟨a, b⟩ <;> rcases h2 with ⟨a2, b2⟩ | ⟨a2, b2⟩
  · omega
  · exact absurd a2 a
  · exact absurd a a2
  · exact isHush_one b b2
theorem anShelf_one {H : jH} {n L i r r2 : Int} (h : anShelf H n L i r) (h2 : anShelf H n L i r2) : r = r2 := by
  rcases h with ⟨a, b⟩ | ⟨a, kb, b, c⟩ <;> rcases h2 with ⟨a2, b2⟩ | ⟨a2, kb2, b2, c2⟩
  · omega
  · exact absurd a2 a
  · exact absurd a a2
  · have := isArg_one (fun _ _ _ => rfl) b b2
    subst this
    rw [c, c2]
theorem cntI_inj {f : Int → Bool} {a b : Int} (ha : 0 ≤ a) (hb : 0 ≤ b) (fa : f a = true) (fb : f b = true) (h : cntI f a = cntI f b) : a = b := by
  have key : ∀ x y : Int, 0 ≤ x → x < y → f x = true → cntI f x < cntI f y := fun x y x0 xy fx => by
    have m1 := cntI_mono f (m := x + 1) (n := y) (by omega) (by omega)
    rw [cntI_s _ x0, fx] at m1
    simp only [if_true] at m1
    omega
  rcases (show a < b ∨ a = b ∨ b < a by omega) with q | q | q
  · have := key a b ha q fa; omega
  · exact q
  · have := key b a hb q fb; omega
theorem anLearn_one {H : jH} {b i r r2 : Int} (h : anLearn H b i r) (h2 : anLearn H b i r2) : r = r2 := by
  rcases h with ⟨a1, a2⟩ | ⟨a1, a2, a3⟩ | ⟨a1, a2, a3, a4, a5, a6, a7⟩ | ⟨a1, a2, a3, a4⟩ <;> rcases h2 with ⟨b1, b2⟩ | ⟨b1, b2, b3⟩ | ⟨b1, b2, b3, b4, b5, b6, b7⟩ | ⟨b1, b2, b3, b4⟩ <;> first | omega | exact cntI_inj a4 b4 a6 b6 (a7.trans b7.symm)
theorem anEmpty_one {H : jH} {r r2 : Int} (h : anEmpty H r) (h2 : anEmpty H r2) : r = r2 := Eq.trans h h2.symm
theorem anTurn_one {H : jH} {b s r r2 : Int} (h : anTurn H b s r) (h2 : anTurn H b s r2) : r = r2 := by
  rcases h with ⟨a, b⟩ | ⟨a, g, b, c⟩ <;> rcases h2 with ⟨a2, b2⟩ | ⟨a2, g2, b2, c2⟩
  · omega
  · exact absurd a2 a
  · exact absurd a a2
  · exact isArg_one (fun u u0 u1 => isGa_one (fun _ _ _ => rfl) (b u u0 u1) (b2 u u0 u1)) c c2
theorem anLooks_one {H : jH} {c b t w r r2 : Int} (h : anLooks H c b t w r) (h2 : anLooks H c b t w r2) : r = r2 := by unfold anLooks at h h2; omega
theorem anNight_one {H : jH} {x t w r r2 : Int} (h : anNight H x t w r) (h2 : anNight H x t w r2) : r = r2 := by unfold anNight at h h2; omega
/-- what the answers hang on -/
def sameC (H H' : jH) : Prop := (∀ k, k ≠ 0 → k < 22 → H' k = H k) ∧ (∀ j, j ≠ 10 → H' 0 j = H 0 j)
theorem CQ.same {H H' : jH} (h : CQ H H') : sameC H H' := ⟨fun k a b => h.1 k a (Or.inl b), h.2.1⟩
theorem sameC.refl (H : jH) : sameC H H := ⟨fun _ _ _ => rfl, fun _ _ => rfl⟩
theorem sameC.trans {H H1 H2 : jH} (h : sameC H H1) (g : sameC H1 H2) : sameC H H2 := ⟨fun k a b => (g.1 k a b).trans (h.1 k a b), fun j a => (g.2 j a).trans (h.2 j a)⟩
theorem sameC.symm {H H1 : jH} (h : sameC H H1) : sameC H1 H := ⟨fun k a b => (h.1 k a b).symm, fun j a => (h.2 j a).symm⟩
theorem sameC.cfg {H H' : jH} (h : sameC H H') : cfg H' = cfg H := cfg_eq (fun k a b => h.1 k a b) h.2
theorem sameC.gd {H H' : jH} (h : sameC H H') (b : Int) : gdB H' b = gdB H b := by
  funext c
  unfold gdB
  rw [h.cfg, h.1 11 (by decide) (by decide), h.1 12 (by decide) (by decide), h.2 6 (by decide)]
theorem sameC.box {H H' : jH} (h : sameC H H') : anBox H' = anBox H := by
  funext b w r; unfold anBox; rw [h.1 1 (by decide) (by decide), h.1 3 (by decide) (by decide), h.1 4 (by decide) (by decide), h.1 5 (by decide) (by decide)]
theorem sameC.step {H H' : jH} (h : sameC H H') : anStep H' = anStep H := by
  funext b w r; unfold anStep; rw [h.cfg]
theorem sameC.spring {H H' : jH} (h : sameC H H') : anSpring H' = anSpring H := by
  funext b w r; unfold anSpring; rw [h.cfg, h.1 1 (by decide) (by decide), h.1 5 (by decide) (by decide)]
theorem sameC.quiet {H H' : jH} (h : sameC H H') : anQuiet H' = anQuiet H := by
  funext r; unfold anQuiet; rw [h.cfg]
theorem sameC.loud {H H' : jH} (h : sameC H H') : anLoud H' = anLoud H := by
  funext w r; unfold anLoud; rw [h.cfg]
theorem sameC.first {H H' : jH} (h : sameC H H') : anFirst H' = anFirst H := by
  funext w r; unfold anFirst; rw [h.cfg, h.1 1 (by decide) (by decide)]
theorem sameC.tog {H H' : jH} (h : sameC H H') : anTog H' = anTog H := by
  funext a w r; unfold anTog; rw [h.cfg, h.1 1 (by decide) (by decide)]
theorem sameC.hears {H H' : jH} (h : sameC H H') : anHears H' = anHears H := by
  funext a w r; unfold anHears; rw [h.cfg, h.1 1 (by decide) (by decide)]
theorem sameC.news {H H' : jH} (h : sameC H H') : anNews H' = anNews H := by
  funext a b w r; unfold anNews; rw [h.cfg, h.1 1 (by decide) (by decide)]
theorem sameC.hush {H H' : jH} (h : sameC H H') : anHush H' = anHush H := by
  funext b w r; unfold anHush; rw [h.cfg, h.2 2 (by decide)]
theorem sameC.shelf {H H' : jH} (h : sameC H H') : anShelf H' = anShelf H := by
  funext a b w r; unfold anShelf; rw [h.cfg, h.1 1 (by decide) (by decide)]
theorem sameC.learn {H H' : jH} (h : sameC H H') : anLearn H' = anLearn H := by
  funext b w r; unfold anLearn; rw [h.gd, h.1 1 (by decide) (by decide)]
theorem sameC.empty {H H' : jH} (h : sameC H H') : anEmpty H' = anEmpty H := by
  funext r; unfold anEmpty; rw [h.cfg, h.1 1 (by decide) (by decide), h.1 4 (by decide) (by decide), h.1 11 (by decide) (by decide), h.1 12 (by decide) (by decide), h.2 6 (by decide)]
theorem sameC.turn {H H' : jH} (h : sameC H H') : anTurn H' = anTurn H := by
  funext b w r; unfold anTurn; rw [h.gd, h.cfg, h.1 1 (by decide) (by decide)]
theorem sameC.looks {H H' : jH} (h : sameC H H') : anLooks H' = anLooks H := by
  funext a b c w r; unfold anLooks; rw [h.cfg, h.1 1 (by decide) (by decide)]
theorem sameC.night {H H' : jH} (h : sameC H H') : anNight H' = anNight H := by
  funext b c w r; unfold anNight; rw [h.cfg]
theorem sameC.count {H H' : jH} (h : sameC H H') : fCount H' = fCount H := by
  funext w; unfold fCount; rw [h.cfg, h.1 1 (by decide) (by decide), h.1 3 (by decide) (by decide), h.1 5 (by decide) (by decide), h.1 7 (by decide) (by decide), h.2 6 (by decide), h.2 2 (by decide), h.2 8 (by decide)]
theorem eps_eq {P : Int → Prop} (u : ∀ a b, P a → P b → a = b) {r : Int} (h : P r) : r = Classical.epsilon P := u _ _ h (Classical.epsilon_spec ⟨r, h⟩)
/-! the digest -/
def w32 (x : Int) : Int := jb (jI x)
def dgN (f : Int → Int) (h : Int) : Nat → Int
  | 0 => h
  | n + 1 => 31 * dgN f h n + w32 (f n)
noncomputable def dgB (H : jH) (h b : Int) : Int :=
  31 * (31 * (31 * (31 * (31 * (31 * (31 * (31 * (31 * (31 * (31 * h + w32 (H 3 b)) + w32 (H 4 b)) + w32 (H 5 b)) + w32 (Classical.epsilon (anFirst H b))) + w32 (Classical.epsilon (anSpring H 9 b))) + w32 (Classical.epsilon (anTog H b 0))) + w32 (Classical.epsilon (anHears H b 2))) + w32 (Classical.epsilon (anLearn H b (-1)))) + w32 (Classical.epsilon (anLearn H b 0))) + Classical.epsilon (anLooks H 5 b 4 0)) + Classical.epsilon (anLooks H 5 b 4 1)
noncomputable def dgBx (H : jH) (h : Int) : Nat → Int
  | 0 => h
  | n + 1 => dgB H (dgBx H h n) n
def dgS (K : jH) (h : Int) : Nat → Int
  | 0 => h
  | n + 1 => 31 * (31 * dgS K h n + w32 (pO K (jDig n))) + w32 (pU K (jDig n))
noncomputable def dgSh (H : jH) (h : Int) : Nat → Int
  | 0 => h
  | n + 1 => 31 * (31 * dgSh H h n + w32 (Classical.epsilon (anShelf H 3 n (-1)))) + w32 (Classical.epsilon (anShelf H 3 n 0))
noncomputable def dg1 (H : jH) : Int := dgS (cfg H) (dgBx H (dgN (H 6) (31 * dgN (fCount H) 17 8 + w32 (H 1 2)) 9) (H 1 3).toNat) 5
noncomputable def dg2 (H : jH) : Int := 31 * (31 * (31 * (31 * (31 * (31 * dg1 H + w32 (Classical.epsilon (anQuiet H))) + w32 (Classical.epsilon (anLoud H 0))) + w32 (Classical.epsilon (anLoud H 1))) + w32 (Classical.epsilon (anNews H 0 0 1))) + w32 (Classical.epsilon (anHush H 9 0))) + w32 (Classical.epsilon (anHush H 9 1))
noncomputable def dg3 (H : jH) : Int := 31 * (31 * (31 * (31 * dgSh H (dg2 H) 2 + w32 (Classical.epsilon (anEmpty H))) + w32 (Classical.epsilon (anTurn H 0 4))) + w32 (Classical.epsilon (anNight H 7 20 0))) + w32 (Classical.epsilon (anNight H 7 20 1))
theorem sameC.dgb {H H' : jH} (h : sameC H H') : dgB H' = dgB H := by
  funext x b; unfold dgB; rw [h.first, h.spring, h.tog, h.hears, h.learn, h.looks, h.1 3 (by decide) (by decide), h.1 4 (by decide) (by decide), h.1 5 (by decide) (by decide)]
section S30
variable {E : jE} {me : jM} {Q : Option Value → jH → Prop} {pc : Nat} {lv : List (Option Value)} {st : List Value} {H : jH}
theorem k_i2l (n : Nat) (hn : pc + 1 = n) {a : Int} (hd : decode me.2.1 pc = .ok (.i2l, 1)) (k : jWP E me Q n lv (.long (jL (w32 a)) :: st) H) : jWP E me Q pc lv (.int (jI a) :: st) H := by
  have h : jI (w32 a) = jI a := jb_I _
  rw [← h]
  exact j_i2l n hn (fun _ => jb_r _) hd k
theorem j_dget (n : Nat) (hn : pc + 3 = n) (ho : me.1.cls = RX4) (hl : Cond.fieldLink RX4 268 RX4 "DIGEST_STEPS" "[I" ∈ jW) (hd : decode me.2.1 pc = .ok (.getstatic 268, 3)) (k : jWP E me Q n lv (jRF E 80 :: st) H) : jWP E me Q pc lv st H := by
  subst hn
  intro p e s m args below meth c heap locs ls F S X V Y
  have h := F.2.2.2.1
  rw [ho] at h
  exact va_gets F.1 F.2.1 S.2.2.2.2.2.2.2.1 V h (F.2.2.2.2.1 _ (List.mem_cons_of_mem _ hl)) (fun _ h => h) hd (k p e s m args below meth c heap locs ls F S X V Y)
theorem j_dlen (n : Nat) (hn : pc + 1 = n) (hd : decode me.2.1 pc = .ok (.arraylength, 1)) (k : jWP E me Q n lv (.int (jI 5) :: st) H) : jWP E me Q pc lv (jRF E 80 :: st) H := by
  subst hn
  intro p e s m args below meth c heap locs ls F S X V Y
  exact va_tlen (v := jI 5) F.1 F.2.1 S.2.2.2.2.2.2.2.2 V (by decide) hd (k p e s m args below meth c heap locs ls F S X V Y)
theorem j_dald (n : Nat) (hn : pc + 1 = n) {i : Int} (hi : 0 ≤ i ∧ i < 5) (hd : decode me.2.1 pc = .ok (.iaload, 1)) (k : jWP E me Q n lv (.int (jI (jDig i.toNat)) :: st) H) : jWP E me Q pc lv (.int (jI i) :: jRF E 80 :: st) H := by
  subst hn
  intro p e s m args below meth c heap locs ls F S X V Y
  refine va_ti (v := .int (jI (jDig i.toNat))) F.1 F.2.1 S.2.2.2.2.2.2.2.2 V (jI_in (n := 5) (by decide) hi.1 hi.2) ?_ hd (k p e s m args below meth c heap locs ls F S X V Y)
  rcases (show i = 0 ∨ i = 1 ∨ i = 2 ∨ i = 3 ∨ i = 4 by omega) with rfl | rfl | rfl | rfl | rfl <;> decide
end S30
theorem ws_dig : Cond.fieldLink RX4 268 RX4 "DIGEST_STEPS" "[I" ∈ jW := jW_of (List.mem_append_right _ (List.mem_of_getElem? (l := tables_1) (i := 659) (by decide +kernel))) rfl
theorem jDig_r (n : Nat) : 0 ≤ jDig n ∧ jDig n < 60 := by
  unfold jDig
  split <;> omega
