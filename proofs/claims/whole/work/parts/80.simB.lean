section SIB
theorem smU_rng {f h : Nat → Nat} {x y N : Nat} (hxy : x ≤ y) (hyN : y ≤ N) (f1 : ∀ k, k < x → f k = 0) (f2 : ∀ k, x ≤ k → k < y → f k ≤ h k) (f3 : ∀ k, y ≤ k → k < N → f k = 0) : smU f N + smU h x ≤ smU h y := by
  have L : ∀ n, n ≤ N → (n ≤ x → smU f n = 0) ∧ (x ≤ n → n ≤ y → smU f n + smU h x ≤ smU h n) ∧ (y ≤ n → smU f n + smU h x ≤ smU h y) := by
    intro n
    induction n with
    | zero =>
      intro _
      have z : smU f 0 = 0 := rfl
      refine ⟨fun _ => z, fun a _ => ?_, fun a => ?_⟩
      · have : x = 0 := by omega
        rw [this, z]
        omega
      · have e1 : x = 0 := by omega
        have e2 : y = 0 := by omega
        rw [e1, e2, z]
        omega
    | succ n ih =>
      intro hn
      obtain ⟨i1, i2, i3⟩ := ih (by omega)
      have e : smU f (n + 1) = smU f n + f n := rfl
      have eh : smU h (n + 1) = smU h n + h n := rfl
      have A : n + 1 ≤ x → smU f (n + 1) = 0 := by
        intro a
        rw [e, i1 (by omega), f1 n (by omega)]
      have B : x ≤ n + 1 → n + 1 ≤ y → smU f (n + 1) + smU h x ≤ smU h (n + 1) := by
        intro a b
        by_cases q : x = n + 1
        · rw [A (by omega), q]
          omega
        · have := i2 (by omega) (by omega)
          have := f2 n (by omega) (by omega)
          omega
      refine ⟨A, B, fun a => ?_⟩
      by_cases q : y = n + 1
      · rw [q]
        rw [q] at hxy
        exact B hxy (by omega)
      · have := i3 (by omega)
        have := f3 n (by omega) (by omega)
        omega
  exact (L N (Nat.le_refl _)).2.2 hyN
theorem thr_of {P : Nat → Int32} (X : Int) : ∀ n, (∀ i j, i ≤ j → j < n → (P i).toInt ≤ (P j).toInt) → ∃ c, c ≤ n ∧ ∀ k, k < n → (k < c ↔ (P k).toInt ≤ X)
  | 0, _ => ⟨0, Nat.le_refl _, fun k hk => by omega⟩
  | n + 1, hs => by
    obtain ⟨c, h1, h2⟩ := thr_of X n (fun i j a b => hs i j a (by omega))
    by_cases q : c = n ∧ (P n).toInt ≤ X
    · refine ⟨n + 1, Nat.le_refl _, fun k hk => ⟨fun _ => ?_, fun _ => hk⟩⟩
      have := hs k n (by omega) (by omega)
      omega
    · refine ⟨c, by omega, fun k hk => ?_⟩
      rcases lt_split hk with w | w
      · exact h2 k w
      · rw [w]
        refine ⟨fun z => by omega, fun z => ?_⟩
        rcases Nat.lt_or_ge c n with u | u
        · have a1 := h2 c u
          have a2 := hs c n (by omega) (by omega)
          omega
        · omega
variable {l r nv m b0 : Nat} {bg : Int32} {P H pm pl vf vh : Nat → Int32} {E h : Nat → Int32}
theorem runR (hC : RdC l r bg P) (hS : SndC l r (fun _ _ _ _ _ => True) E) (hCl : ∀ a b s m, a ≤ l → b ≤ r → s < 2 → m ≤ a + b → CloC l r bg P H E h a b s m) {a b s c : Nat} {p : Int32} {T : Int} (ha : a ≤ l) (hs : s < 2) (hc : c ≤ a + b) (hne : ¬ E (cellN r a b s c) = 1000000) (hv : (E (cellN r a b s c)).toInt + p.toInt - (posC bg P l a b s).toInt ≤ T) : ∀ j, b + j ≤ r → (∀ i, i < j → P (l + b + i) = p) → ∃ s2 c2, s2 < 2 ∧ c2 ≤ a + (b + j) ∧ ¬ E (cellN r a (b + j) s2 c2) = 1000000 ∧ (E (cellN r a (b + j) s2 c2)).toInt + p.toInt - (posC bg P l a (b + j) s2).toInt ≤ T ∧ (0 < j → posC bg P l a (b + j) s2 = p) ∧ c + smU (fun k => met (H k).toInt T) (l + b + j) ≤ c2 + smU (fun k => met (H k).toInt T) (l + b)
  | 0, _, _ => ⟨s, c, hs, hc, hne, hv, fun z => by omega, Nat.le_refl _⟩
  | j + 1, hj, hP => by
    obtain ⟨s1, c1, i1, i2, i3, i4, i5, i6⟩ := runR hC hS hCl ha hs hc hne hv j (by omega) (fun i z => hP i (by omega))
    have h16 := hC.1
    obtain ⟨-, w1, w2, w3⟩ := hS a (b + j) s1 c1 ha (by omega) i1 (by omega) i3
    have cl := (hCl a (b + j) s1 c1 ha (by omega) i1 i2 i3).2.2 (by omega)
    unfold tRC at cl
    have ep : P (l + (b + j)) = p := by rw [← Nat.add_assoc]; exact hP j (by omega)
    have hr := hC.2.2.1 (l + (b + j)) (by omega)
    have hr2 := pos_rng (s := s1) hC ha (show b + j ≤ r by omega)
    rw [ep] at cl hr
    obtain ⟨hr3, hr4⟩ := hr
    obtain ⟨hr5, hr6⟩ := hr2
    have eq := posC_bR (bg := bg) (P := P) (l := l) (a := a) (b := b + j)
    rw [ep] at eq
    have ml := met_le (H (l + (b + j))).toInt ((E (cellN r a (b + j) s1 c1)).toInt + p.toInt - (posC bg P l a (b + j) s1).toInt)
    have mm := met_mono (h := (H (l + (b + j))).toInt) i4
    have es : smU (fun k => met (H k).toInt T) (l + b + (j + 1)) = smU (fun k => met (H k).toInt T) (l + b + j) + met (H (l + (b + j))).toInt T := by
      rw [← Nat.add_assoc l b j]
      rfl
    refine ⟨1, c1 + met (H (l + (b + j))).toInt ((E (cellN r a (b + j) s1 c1)).toInt + p.toInt - (posC bg P l a (b + j) s1).toInt), by omega, by omega, (ne_of_small (Int.le_trans cl (by omega))).2, ?_, fun _ => eq, ?_⟩
    · show (E (cellN r a (b + j + 1) 1 _)).toInt + p.toInt - (posC bg P l a (b + j + 1) 1).toInt ≤ T
      rw [eq]
      omega
    · rw [es]
      omega
theorem runL (hC : RdC l r bg P) (hS : SndC l r (fun _ _ _ _ _ => True) E) (hCl : ∀ a b s m, a ≤ l → b ≤ r → s < 2 → m ≤ a + b → CloC l r bg P H E h a b s m) {a b s c : Nat} {p : Int32} {T : Int} (hb : b ≤ r) (hs : s < 2) (hc : c ≤ a + b) (hne : ¬ E (cellN r a b s c) = 1000000) (hv : (E (cellN r a b s c)).toInt + (posC bg P l a b s).toInt - p.toInt ≤ T) : ∀ j, a + j ≤ l → (∀ i, i < j → P (l - a - 1 - i) = p) → ∃ s2 c2, s2 < 2 ∧ c2 ≤ a + j + b ∧ ¬ E (cellN r (a + j) b s2 c2) = 1000000 ∧ (E (cellN r (a + j) b s2 c2)).toInt + (posC bg P l (a + j) b s2).toInt - p.toInt ≤ T ∧ (0 < j → posC bg P l (a + j) b s2 = p) ∧ c + smU (fun k => met (H k).toInt T) (l - a) ≤ c2 + smU (fun k => met (H k).toInt T) (l - a - j)
  | 0, _, _ => ⟨s, c, hs, hc, hne, hv, fun z => by omega, Nat.le_refl _⟩
  | j + 1, hj, hP => by
    obtain ⟨s1, c1, i1, i2, i3, i4, i5, i6⟩ := runL hC hS hCl hb hs hc hne hv j (by omega) (fun i z => hP i (by omega))
    have h16 := hC.1
    obtain ⟨-, w1, w2, w3⟩ := hS (a + j) b s1 c1 (by omega) hb i1 (by omega) i3
    have cl := (hCl (a + j) b s1 c1 (by omega) hb i1 i2 i3).2.1 (by omega)
    unfold tLC at cl
    have ep : P (l - (a + j) - 1) = p := by rw [show l - (a + j) - 1 = l - a - 1 - j by omega]; exact hP j (by omega)
    have hr := hC.2.2.1 (l - (a + j) - 1) (by omega)
    have hr2 := pos_rng (s := s1) hC (show a + j ≤ l by omega) hb
    rw [ep] at cl hr
    obtain ⟨hr3, hr4⟩ := hr
    obtain ⟨hr5, hr6⟩ := hr2
    have eq := posC_aL (bg := bg) (P := P) (l := l) (a := a + j) (b := b) (by omega)
    rw [ep] at eq
    have ml := met_le (H (l - (a + j) - 1)).toInt ((E (cellN r (a + j) b s1 c1)).toInt + (posC bg P l (a + j) b s1).toInt - p.toInt)
    have mm := met_mono (h := (H (l - (a + j) - 1)).toInt) i4
    have es : smU (fun k => met (H k).toInt T) (l - a - j) = smU (fun k => met (H k).toInt T) (l - a - (j + 1)) + met (H (l - (a + j) - 1)).toInt T := by
      rw [show l - a - j = l - a - (j + 1) + 1 by omega, show l - (a + j) - 1 = l - a - (j + 1) by omega]
      rfl
    refine ⟨0, c1 + met (H (l - (a + j) - 1)).toInt ((E (cellN r (a + j) b s1 c1)).toInt + (posC bg P l (a + j) b s1).toInt - p.toInt), by omega, by omega, (ne_of_small (Int.le_trans cl (by omega))).2, ?_, fun _ => eq, ?_⟩
    · show (E (cellN r (a + j + 1) b 0 _)).toInt + (posC bg P l (a + j + 1) b 0).toInt - p.toInt ≤ T
      rw [eq]
      omega
    · rw [es] at i6
      omega
/-- the component has a cell that is as good -/
def QB (nv l r b0 : Nat) (bg : Int32) (P pm E : Nat → Int32) (lo hi s n : Nat) (t : Int) : Prop := lo ≤ b0 ∧ b0 ≤ hi ∧ ∃ a b s' c, a ≤ l ∧ b ≤ r ∧ s' < 2 ∧ c ≤ a + b ∧ ¬ E (cellN r a b s' c) = 1000000 ∧ (∀ k, k < nv → ((l ≤ k + a ∧ k < l + b) ↔ ((pm lo).toInt ≤ (P k).toInt ∧ (P k).toInt ≤ (pm hi).toInt))) ∧ posC bg P l a b s' = posM pm lo hi s ∧ (E (cellN r a b s' c)).toInt ≤ t ∧ n ≤ c
theorem stB_R (hC : RdC l r bg P) (hlr : l + r = nv) (hM : RdM m pm) (hIn : ∀ k, k < nv → ∃ b, b < m ∧ pm b = P k) (hOut : ∀ b, b < m → pm b = bg ∨ ∃ k, k < nv ∧ pm b = P k) (hLk : LkV P H pl vf vh nv) (hb0 : b0 < m) (hp0 : pm b0 = bg) (hS : SndC l r (fun _ _ _ _ _ => True) E) (hCl : ∀ a b s m, a ≤ l → b ≤ r → s < 2 → m ≤ a + b → CloC l r bg P H E h a b s m) {lo hi s n : Nat} {t : Int} (h1 : lo ≤ hi) (h2 : hi + 1 < m) (hq : QB nv l r b0 bg P pm E lo hi s n t) : QB nv l r b0 bg P pm E lo (hi + 1) 1 (n + mtI pl vf vh (pm (hi + 1)) (tM pm lo hi s (hi + 1) t) nv) (tM pm lo hi s (hi + 1) t) := by
  obtain ⟨x1, x2, a, b, s', c, q1, q2, q3, q4, q5, q6, q7, q8, q9⟩ := hq
  have g1 := pm_lt hM (show hi < hi + 1 by omega) h2
  have g2 := pm_le hM x1 hb0
  have g3 := pm_le hM x2 (by omega)
  rw [hp0] at g2 g3
  have gs : (posM pm lo hi s).toInt ≤ (pm hi).toInt := by
    unfold posM
    split
    · exact pm_le hM h1 (by omega)
    · exact Int.le_refl _
  have eT : tM pm lo hi s (hi + 1) t = t + ((pm (hi + 1)).toInt - (posM pm lo hi s).toInt) := by
    unfold tM iabs
    rw [if_pos (by omega)]
  rw [eT]
  obtain ⟨c0, hc0, hthr⟩ := thr_of (P := P) (pm (hi + 1)).toInt nv (fun i j a b => srt_le hC a (by omega))
  have in1 : ∀ k, k < nv → k < l → (P k).toInt < bg.toInt := fun k _ z => hC.2.2.2.1 k z
  have in2 : ∀ k, k < nv → l ≤ k → bg.toInt ≤ (P k).toInt := fun k a z => hC.2.2.2.2.1 k z (by omega)
  have out : ∀ k, k < nv → (pm hi).toInt < (P k).toInt → (pm (hi + 1)).toInt ≤ (P k).toInt := by
    intro k hk z
    obtain ⟨b', hb', eb⟩ := hIn k hk
    have ebz : (pm b').toInt = (P k).toInt := congrArg _ eb
    rcases Nat.lt_or_ge hi b' with w | w
    · have := pm_le hM (show hi + 1 ≤ b' from w) hb'
      omega
    · have := pm_le hM w (by omega)
      omega
  have hge : l + b ≤ c0 := by
    rcases Nat.lt_or_ge c0 (l + b) with w | w
    · have a1 := hthr c0 (by omega)
      have a2 := q6 c0 (by omega)
      have a3 := in1 c0 (by omega)
      omega
    · exact w
  obtain ⟨j, hj⟩ : ∃ j, l + b + j = c0 := ⟨c0 - (l + b), by omega⟩
  have hrun : ∀ i, i < j → P (l + b + i) = pm (hi + 1) := by
    intro i hi'
    refine Int32.toInt_inj.mp ?_
    have a1 := hthr (l + b + i) (by omega)
    have a2 := q6 (l + b + i) (by omega)
    have a3 := in2 (l + b + i) (by omega) (by omega)
    have a4 := out (l + b + i) (by omega)
    omega
  have hjp : 0 < j := by
    rcases hOut (hi + 1) h2 with w | ⟨k, hk, w⟩
    · have wz : (pm (hi + 1)).toInt = bg.toInt := congrArg _ w
      omega
    · have wz : (pm (hi + 1)).toInt = (P k).toInt := congrArg _ w
      have a1 := hthr k hk
      have a2 := q6 k hk
      have a3 := in1 k hk
      omega
  have q7z : (posC bg P l a b s').toInt = (posM pm lo hi s).toInt := congrArg _ q7
  obtain ⟨s2, c2, r1, r2, r3, r4, r5, r6⟩ := runR hC hS hCl (p := pm (hi + 1)) (T := t + ((pm (hi + 1)).toInt - (posM pm lo hi s).toInt)) q1 q3 q4 q5 (by omega) j (by omega) hrun
  have r5' := r5 hjp
  refine ⟨x1, by omega, a, b + j, s2, c2, q1, by omega, r1, r2, r3, ?_, ?_, ?_, ?_⟩
  · intro k hk
    have a1 := hthr k hk
    have a2 := q6 k hk
    have a3 := in1 k hk
    have a4 := in2 k hk
    have a5 := out k hk
    constructor
    · intro z
      omega
    · intro z
      omega
  · rw [r5']
    rfl
  · rw [r5'] at r4
    omega
  · have s1 := smU_rng (f := cR P H (pm (hi + 1)) (t + ((pm (hi + 1)).toInt - (posM pm lo hi s).toInt))) (h := fun k => met (H k).toInt (t + ((pm (hi + 1)).toInt - (posM pm lo hi s).toInt))) (x := l + b) (y := l + b + j) (N := nv) (by omega) (by omega) (fun k hk => by
      unfold cR
      rw [if_neg]
      intro z
      have zz : (P k).toInt = (pm (hi + 1)).toInt := congrArg _ z
      have a2 := q6 k (by omega)
      have a3 := in1 k (by omega)
      omega) (fun k _ _ => by
      unfold cR met
      repeat' split
      all_goals omega) (fun k a b => by
      unfold cR
      rw [if_neg]
      intro z
      have zz : (P k).toInt = (pm (hi + 1)).toInt := congrArg _ z
      have a1 := hthr k b
      omega)
    rw [hLk]
    omega
theorem stB_L (hC : RdC l r bg P) (hlr : l + r = nv) (hM : RdM m pm) (hIn : ∀ k, k < nv → ∃ b, b < m ∧ pm b = P k) (hOut : ∀ b, b < m → pm b = bg ∨ ∃ k, k < nv ∧ pm b = P k) (hLk : LkV P H pl vf vh nv) (hb0 : b0 < m) (hp0 : pm b0 = bg) (hS : SndC l r (fun _ _ _ _ _ => True) E) (hCl : ∀ a b s m, a ≤ l → b ≤ r → s < 2 → m ≤ a + b → CloC l r bg P H E h a b s m) {lo hi s n : Nat} {t : Int} (h0 : 0 < lo) (h1 : lo ≤ hi) (h2 : hi < m) (hq : QB nv l r b0 bg P pm E lo hi s n t) : QB nv l r b0 bg P pm E (lo - 1) hi 0 (n + mtI pl vf vh (pm (lo - 1)) (tM pm lo hi s (lo - 1) t) nv) (tM pm lo hi s (lo - 1) t) := by
  obtain ⟨x1, x2, a, b, s', c, q1, q2, q3, q4, q5, q6, q7, q8, q9⟩ := hq
  have g1 := pm_lt hM (show lo - 1 < lo by omega) (by omega)
  have g2 := pm_le hM x1 hb0
  have g3 := pm_le hM x2 (by omega)
  rw [hp0] at g2 g3
  have gs : (pm lo).toInt ≤ (posM pm lo hi s).toInt := by
    unfold posM
    split
    · exact Int.le_refl _
    · exact pm_le hM h1 (by omega)
  have eT : tM pm lo hi s (lo - 1) t = t + ((posM pm lo hi s).toInt - (pm (lo - 1)).toInt) := by
    unfold tM iabs
    rw [if_neg (by omega)]
    omega
  rw [eT]
  obtain ⟨c0, hc0, hthr⟩ := thr_of (P := P) ((pm (lo - 1)).toInt - 1) nv (fun i j a b => srt_le hC a (by omega))
  have in1 : ∀ k, k < nv → k < l → (P k).toInt < bg.toInt := fun k _ z => hC.2.2.2.1 k z
  have in2 : ∀ k, k < nv → l ≤ k → bg.toInt ≤ (P k).toInt := fun k a z => hC.2.2.2.2.1 k z (by omega)
  have out : ∀ k, k < nv → (P k).toInt < (pm lo).toInt → (P k).toInt ≤ (pm (lo - 1)).toInt := by
    intro k hk z
    obtain ⟨b', hb', eb⟩ := hIn k hk
    have ebz : (pm b').toInt = (P k).toInt := congrArg _ eb
    rcases Nat.lt_or_ge b' lo with w | w
    · have := pm_le hM (show b' ≤ lo - 1 by omega) (by omega)
      omega
    · have := pm_le hM w hb'
      omega
  have hge : c0 + a ≤ l := by
    rcases Nat.lt_or_ge l (c0 + a) with w | w
    · have a1 := hthr (l - a) (by omega)
      have a2 := q6 (l - a) (by omega)
      have a3 := in2 (l - a) (by omega)
      omega
    · exact w
  obtain ⟨j, hj⟩ : ∃ j, c0 + j + a = l := ⟨l - a - c0, by omega⟩
  have hrun : ∀ i, i < j → P (l - a - 1 - i) = pm (lo - 1) := by
    intro i hi'
    refine Int32.toInt_inj.mp ?_
    have a1 := hthr (l - a - 1 - i) (by omega)
    have a2 := q6 (l - a - 1 - i) (by omega)
    have a3 := in1 (l - a - 1 - i) (by omega) (by omega)
    have a4 := out (l - a - 1 - i) (by omega)
    omega
  have hjp : 0 < j := by
    rcases hOut (lo - 1) (by omega) with w | ⟨k, hk, w⟩
    · have wz : (pm (lo - 1)).toInt = bg.toInt := congrArg _ w
      omega
    · have wz : (pm (lo - 1)).toInt = (P k).toInt := congrArg _ w
      have a1 := hthr k hk
      have a2 := q6 k hk
      have a3 := in2 k hk
      omega
  have q7z : (posC bg P l a b s').toInt = (posM pm lo hi s).toInt := congrArg _ q7
  obtain ⟨s2, c2, r1, r2, r3, r4, r5, r6⟩ := runL hC hS hCl (p := pm (lo - 1)) (T := t + ((posM pm lo hi s).toInt - (pm (lo - 1)).toInt)) q2 q3 q4 q5 (by omega) j (by omega) hrun
  have r5' := r5 hjp
  refine ⟨by omega, x2, a + j, b, s2, c2, by omega, q2, r1, r2, r3, ?_, ?_, ?_, ?_⟩
  · intro k hk
    have a1 := hthr k hk
    have a2 := q6 k hk
    have a3 := in1 k hk
    have a4 := in2 k hk
    have a5 := out k hk
    constructor
    · intro z
      omega
    · intro z
      omega
  · rw [r5']
    rfl
  · rw [r5'] at r4
    omega
  · have s1 := smU_rng (f := cR P H (pm (lo - 1)) (t + ((posM pm lo hi s).toInt - (pm (lo - 1)).toInt))) (h := fun k => met (H k).toInt (t + ((posM pm lo hi s).toInt - (pm (lo - 1)).toInt))) (x := l - a - j) (y := l - a) (N := nv) (by omega) (by omega) (fun k hk => by
      unfold cR
      rw [if_neg]
      intro z
      have zz : (P k).toInt = (pm (lo - 1)).toInt := congrArg _ z
      have a1 := hthr k (by omega)
      omega) (fun k _ _ => by
      unfold cR met
      repeat' split
      all_goals omega) (fun k a b => by
      unfold cR
      rw [if_neg]
      intro z
      have zz : (P k).toInt = (pm (lo - 1)).toInt := congrArg _ z
      have a2 := q6 k b
      have a3 := in2 k b
      omega)
    rw [hLk]
    omega
theorem stB_all (hC : RdC l r bg P) (hlr : l + r = nv) (hM : RdM m pm) (hIn : ∀ k, k < nv → ∃ b, b < m ∧ pm b = P k) (hOut : ∀ b, b < m → pm b = bg ∨ ∃ k, k < nv ∧ pm b = P k) (hLk : LkV P H pl vf vh nv) (hb0 : b0 < m) (hp0 : pm b0 = bg) (hS : SndC l r (fun _ _ _ _ _ => True) E) (hCl : ∀ a b s m, a ≤ l → b ≤ r → s < 2 → m ≤ a + b → CloC l r bg P H E h a b s m) : StM m nv pm pl vf vh (QB nv l r b0 bg P pm E) := ⟨fun _ _ _ _ _ h0 h1 h2 _ _ hq => stB_L hC hlr hM hIn hOut hLk hb0 hp0 hS hCl h0 h1 h2 hq, fun _ _ _ _ _ h1 h2 _ _ hq => stB_R hC hlr hM hIn hOut hLk hb0 hp0 hS hCl h1 h2 hq⟩
theorem qB_0 (hC : RdC l r bg P) (hlr : l + r = nv) (hLk : LkV P H pl vf vh nv) (hp0 : pm b0 = bg) (hS : SndC l r (fun _ _ _ _ _ => True) E) (hCl : ∀ a b s m, a ≤ l → b ≤ r → s < 2 → m ≤ a + b → CloC l r bg P H E h a b s m) (he : (E (cellN r 0 0 0 0)).toInt ≤ 0) : QB nv l r b0 bg P pm E b0 b0 0 (mtI pl vf vh bg 0 nv) 0 := by
  obtain ⟨c0, hc0, hthr⟩ := thr_of (P := P) bg.toInt nv (fun i j a b => srt_le hC a (by omega))
  have in1 : ∀ k, k < nv → k < l → (P k).toInt < bg.toInt := fun k _ z => hC.2.2.2.1 k z
  have in2 : ∀ k, k < nv → l ≤ k → bg.toInt ≤ (P k).toInt := fun k a z => hC.2.2.2.2.1 k z (by omega)
  have hge : l ≤ c0 := by
    rcases Nat.lt_or_ge c0 l with w | w
    · have a1 := hthr c0 (by omega)
      have a3 := in1 c0 (by omega)
      omega
    · exact w
  obtain ⟨j, hj⟩ : ∃ j, l + 0 + j = c0 := ⟨c0 - l, by omega⟩
  have hrun : ∀ i, i < j → P (l + 0 + i) = bg := by
    intro i hi'
    refine Int32.toInt_inj.mp ?_
    have a1 := hthr (l + 0 + i) (by omega)
    have a3 := in2 (l + 0 + i) (by omega) (by omega)
    omega
  have e0 : posC bg P l 0 0 0 = bg := rfl
  obtain ⟨s2, c2, r1, r2, r3, r4, r5, r6⟩ := runR hC hS hCl (p := bg) (T := 0) (a := 0) (b := 0) (s := 0) (c := 0) (Nat.zero_le _) (by omega) (by omega) (ne_of_small (by omega)).2 (by rw [e0]; omega) j (by omega) hrun
  have r5' : posC bg P l 0 (0 + j) s2 = bg := by
    rcases Nat.eq_zero_or_pos j with z | z
    · rw [z]
      unfold posC
      split <;> rfl
    · exact r5 z
  refine ⟨Nat.le_refl _, Nat.le_refl _, 0, 0 + j, s2, c2, Nat.zero_le _, by omega, r1, r2, r3, ?_, ?_, ?_, ?_⟩
  · intro k hk
    rw [hp0]
    have a1 := hthr k hk
    have a3 := in1 k hk
    have a4 := in2 k hk
    constructor
    · intro z
      omega
    · intro z
      omega
  · rw [r5']
    exact hp0.symm
  · rw [r5'] at r4
    omega
  · have s1 := smU_rng (f := cR P H bg 0) (h := fun k => met (H k).toInt 0) (x := l + 0) (y := l + 0 + j) (N := nv) (by omega) (by omega) (fun k hk => by
      unfold cR
      rw [if_neg]
      intro z
      have zz : (P k).toInt = bg.toInt := congrArg _ z
      have a3 := in1 k (by omega)
      omega) (fun k _ _ => by
      unfold cR met
      repeat' split
      all_goals omega) (fun k a b => by
      unfold cR
      rw [if_neg]
      intro z
      have zz : (P k).toInt = bg.toInt := congrArg _ z
      have a1 := hthr k b
      omega)
    rw [hLk]
    omega
end SIB
