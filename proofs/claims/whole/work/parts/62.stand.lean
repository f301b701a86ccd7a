section STD
def qN (E : Nat → Nat) (Q : Nat) : Nat → Nat
  | 0 => Q
  | k + 1 => qN E Q k - min (E k) (qN E Q k)
theorem qN_le (E : Nat → Nat) (Q : Nat) : ∀ n, qN E Q n ≤ Q
  | 0 => Nat.le_refl _
  | n + 1 => by
    have := qN_le E Q n
    rw [qN]
    omega
theorem lmin1 {a b : Nat} (ha : a < 2 ^ 62) (hb : b < 2 ^ 62) : (if lN a < lN b then lN a else lN b) = lN (min a b) := by
  by_cases q : lN a < lN b
  · rw [if_pos q]
    rw [pk_lLT (by omega) (by omega)] at q
    rw [Nat.min_eq_left (by omega)]
  · rw [if_neg q]
    rw [pk_lLT (by omega) (by omega)] at q
    rw [Nat.min_eq_right (by omega)]
theorem lmin2 {a b : Nat} (ha : a < 2 ^ 62) (hb : b < 2 ^ 62) : (if lN a ≤ lN b then lN a else lN b) = lN (min b a) := by
  by_cases q : lN a ≤ lN b
  · rw [if_pos q]
    rw [pk_lLE (by omega) (by omega)] at q
    rw [Nat.min_eq_right (by omega)]
  · rw [if_neg q]
    rw [pk_lLE (by omega) (by omega)] at q
    rw [Nat.min_eq_left (by omega)]
theorem pd_res {E : Nat → Nat} {Q : Nat} {grp : Int32} {X : St} (hQ : Q < 2 ^ 62) : ∀ n, (∀ k, k < n → (X.2.1 0 k = grp → X.2.2.2.1 1 k - X.2.2.2.1 4 k = lN (E k)) ∧ (¬ X.2.1 0 k = grp → E k = 0) ∧ E k < 2 ^ 62) → Fr [] [] [] [7] (it (pdB grp) n (X, lN Q)).1 X ∧ (it (pdB grp) n (X, lN Q)).2 = lN (qN E Q n) ∧ (∀ k, k < n → X.2.1 0 k = grp → (it (pdB grp) n (X, lN Q)).1.2.2.2.1 7 k = lN (min (E k) (qN E Q k)))
  | 0, _ => by
    rw [it_0]
    exact ⟨Fr.rf, rfl, fun k hk => absurd hk (by omega)⟩
  | n + 1, h => by
    obtain ⟨i1, i2, i3⟩ := pd_res hQ n (fun k hk => h k (by omega))
    obtain ⟨h1, h2, h3⟩ := h n (by omega)
    rw [it_s]
    generalize it (pdB grp) n (X, lN Q) = p at *
    have hg : p.1.2.1 0 n = X.2.1 0 n := congrFun (i1.2.1 0 (by decide)) n
    have hq := qN_le E Q n
    unfold pdB
    rw [hg]
    by_cases g : X.2.1 0 n = grp
    · have he : p.1.2.2.2.1 1 n - p.1.2.2.2.1 4 n = lN (E n) := by
        rw [congrFun (i1.2.2.2.1 1 (by decide)) n, congrFun (i1.2.2.2.1 4 (by decide)) n]
        exact h1 g
      rw [if_pos g, he, i2, lmin1 (by omega) (by omega), updL_eq]
      refine ⟨Fr.B (by decide) i1, ?_, ?_⟩
      · show lN (qN E Q n) - lN (min (E n) (qN E Q n)) = lN (qN E Q (n + 1))
        rw [lN_sub (by omega), qN]
      · intro k hk gk
        show vp_updL (p.1.2.2.2.1 7) n _ k = _
        rcases lt_split hk with hk | rfl
        · rw [updL_ne (by omega)]
          exact i3 k hk gk
        · rw [updL_eq]
    · rw [if_neg g]
      refine ⟨i1, ?_, ?_⟩
      · rw [i2, qN, h2 g, Nat.zero_min, Nat.sub_zero]
      · intro k hk gk
        rcases lt_split hk with hk | rfl
        · exact i3 k hk gk
        · exact absurd gk g
theorem py_res {E : Nat → Nat} {Q : Nat} {grp : Int32} {X : St} (hQ : Q < 2 ^ 62) : ∀ n, (∀ k, k < n → (X.2.1 24 k = grp → X.2.2.2.1 16 k = lN (E k)) ∧ (¬ X.2.1 24 k = grp → E k = 0) ∧ E k < 2 ^ 62) → Fr [] [] [] [16] (it (pyB grp) n (X, lN Q)).1 X ∧ (it (pyB grp) n (X, lN Q)).2 = lN (qN E Q n) ∧ (∀ k, k < n → X.2.1 24 k = grp → (it (pyB grp) n (X, lN Q)).1.2.2.2.1 16 k = lN (E k - min (E k) (qN E Q k))) ∧ (∀ k, (k < n → ¬ X.2.1 24 k = grp) → (it (pyB grp) n (X, lN Q)).1.2.2.2.1 16 k = X.2.2.2.1 16 k)
  | 0, _ => by
    rw [it_0]
    exact ⟨Fr.rf, rfl, fun k hk => absurd hk (by omega), fun k _ => rfl⟩
  | n + 1, h => by
    obtain ⟨i1, i2, i3, i4⟩ := py_res hQ n (fun k hk => h k (by omega))
    obtain ⟨h1, h2, h3⟩ := h n (by omega)
    rw [it_s]
    generalize it (pyB grp) n (X, lN Q) = p at *
    have hg : p.1.2.1 24 n = X.2.1 24 n := congrFun (i1.2.1 24 (by decide)) n
    have hq := qN_le E Q n
    unfold pyB
    rw [hg]
    by_cases g : X.2.1 24 n = grp
    · have he : p.1.2.2.2.1 16 n = lN (E n) := (i4 n (fun q => absurd q (by omega))).trans (h1 g)
      rw [if_pos g, he, i2, lmin2 (by omega) (by omega)]
      dsimp only
      refine ⟨Fr.B (by decide) i1, ?_, ?_, ?_⟩
      · rw [lN_sub (by omega), qN]
      · intro k hk gk
        show vp_updL (p.1.2.2.2.1 16) n _ k = _
        rcases lt_split hk with hk | rfl
        · rw [updL_ne (by omega)]
          exact i3 k hk gk
        · rw [updL_eq, lN_sub (by omega)]
      · intro k hk
        show vp_updL (p.1.2.2.2.1 16) n _ k = _
        have hkn : k ≠ n := by
          intro e
          subst e
          exact hk (by omega) g
        rw [updL_ne hkn]
        exact i4 k (fun q => hk (by omega))
    · rw [if_neg g]
      refine ⟨i1, ?_, ?_, ?_⟩
      · rw [i2, qN, h2 g, Nat.zero_min, Nat.sub_zero]
      · intro k hk gk
        rcases lt_split hk with hk | rfl
        · exact i3 k hk gk
        · exact absurd gk g
      · intro k hk
        exact i4 k (fun q => hk (by omega))
theorem toN40 {A : Nat → Nat} {n : Nat} (hn : n ≤ 40) (h : ∀ k, k < n → A k < 2 ^ 40) : toN A n < 2 ^ 50 := by
  have h1 := toN_le A (2 ^ 40) n (fun k hk => Nat.le_of_lt (h k hk))
  have h2 : n * 2 ^ 40 ≤ 40 * 2 ^ 40 := Nat.mul_le_mul_right _ hn
  omega
/-- the component gives -/
theorem give_res {A : Nat → Nat} {n D : Nat} {X : St} (hn : n ≤ 40) (hD : D < 2 ^ 31) (h : ∀ k, k < n → X.2.2.2.1 5 k = lN (A k) ∧ A k < 2 ^ 40) (h1 : X.2.2.1 0 = lN D) (h2 : X.2.2.1 1 = lN (toN A n)) : ∃ gv, Given A n D gv ∧ Fr [] [] [2] [6] (giveS n X) X ∧ (∀ k, k < n → (giveS n X).2.2.2.1 6 k = lN (gv k)) ∧ (giveS n X).2.2.1 2 = lN (min D (toN A n)) := by
  have hT := toN40 hn (fun k hk => (h k hk).2)
  have h62 : ∀ k, k < n → X.2.2.2.1 5 k = lN (A k) ∧ A k < 2 ^ 62 := fun k hk => ⟨(h k hk).1, by have := (h k hk).2; omega⟩
  unfold giveS
  rw [h1, h2]
  by_cases q : lN D < lN (toN A n)
  · rw [if_pos q]
    rw [pk_lLT (by omega) (by omega)] at q
    have hG : ∃ m, glF (fun z => sumAt (X.2.2.2.1 5) z n) (lN D) 31 (lN 0) = lN m ∧ isG A n D m ∧ m < 2 ^ 31 := by
      refine gl_G (by omega) (fun l hl => sumAt_N (by omega) n h62) (by omega) 31 0 (by decide) (by rw [sN_0]; omega) ?_
      rw [Nat.zero_add]
      by_cases w : ∀ k, k < n → A k ≤ 2 ^ 31
      · rw [sN_top A _ n w]
        exact q
      · have : ∃ k, k < n ∧ 2 ^ 31 < A k := by
          apply Classical.byContradiction
          intro e
          exact w (fun k hk => Nat.le_of_not_lt (fun z => e ⟨k, hk, z⟩))
        obtain ⟨k, hk, hz⟩ := this
        have := sN_ge A (2 ^ 31) n k hk (by omega)
        omega
    obtain ⟨m, e1, e2, e3⟩ := hG
    have e0 : (0 : Int64) = lN 0 := rfl
    rw [← e0] at e1
    dsimp only
    rw [e1, sumAt_N (by omega) n h62, lN_sub e2.1]
    obtain ⟨g1, g2, g3⟩ := ge_res (A := A) (l := m) (R := D - sN A m n) (X := X) (by omega) (by omega) n h62
    generalize it (geB (lN m)) n (X, lN (D - sN A m n)) = p at *
    refine ⟨gvN A m (D - sN A m n), Or.inl ⟨q, m, e2, fun k _ => rfl⟩, Fr.L (by decide) (Fr.wi g1 (fun n q => q) (fun n q => q) (by decide) (fun n q => q)), g3, ?_⟩
    show p.1.2.2.1 0 = _
    rw [g1.2.2.1 0 (by decide), h1, Nat.min_eq_left (by omega)]
  · rw [if_neg q]
    rw [pk_lLT (by omega) (by omega)] at q
    refine ⟨A, Or.inr ⟨by omega, fun k _ => rfl⟩, Fr.L (by decide) (Fr.B (by decide) Fr.rf), ?_, ?_⟩
    · intro k hk
      show va_cpy (X.2.2.2.1 5) (X.2.2.2.1 6) 0 0 n k = _
      unfold va_cpy
      rw [if_pos (by omega)]
      have : 0 + (k - 0) = k := by omega
      rw [this]
      exact (h k hk).1
    · show lN (toN A n) = _
      rw [Nat.min_eq_right (by omega)]
/-- the model's stand of a group -/
theorem standM_res {A E : Nat → Nat} {n : Nat} {grp : Int32} {X : St} (hn : n ≤ 40) (h : ∀ k, k < n → (X.2.1 24 k = grp → X.2.2.2.1 14 k = lN (A k) ∧ X.2.2.2.1 16 k = lN (E k)) ∧ (¬ X.2.1 24 k = grp → A k = 0 ∧ E k = 0) ∧ A k < 2 ^ 40 ∧ E k < 2 ^ 25) : ∃ gv, Given A n (toN E n) gv ∧ Fr [] [] [] [15, 16] (standM grp n X) X ∧ (∀ k, k < n → X.2.1 24 k = grp → (standM grp n X).2.2.2.1 15 k = lN (gv k) ∧ (standM grp n X).2.2.2.1 16 k = lN (E k - min (E k) (qN E (min (toN E n) (toN A n)) k))) ∧ (∀ k, (k < n → ¬ X.2.1 24 k = grp) → (standM grp n X).2.2.2.1 15 k = X.2.2.2.1 15 k ∧ (standM grp n X).2.2.2.1 16 k = X.2.2.2.1 16 k) := by
  have hT := toN40 (A := A) hn (fun k hk => (h k hk).2.2.1)
  have hE := toN40 (A := E) hn (fun k hk => by have := (h k hk).2.2.2; omega)
  have hA : ∀ k, k < n → (X.2.1 24 k = grp → X.2.2.2.1 14 k = lN (A k)) ∧ (¬ X.2.1 24 k = grp → A k = 0) ∧ A k < 2 ^ 62 := fun k hk => ⟨fun g => ((h k hk).1 g).1, fun g => ((h k hk).2.1 g).1, by have := (h k hk).2.2.1; omega⟩
  have hm := mxN_lt A (2 ^ 40) (by decide) n (fun k hk => (h k hk).2.2.1)
  have e1 := dbF_N (gr := X.2.1 24) (le := X.2.2.2.1 16) (grp := grp) (E := E) n (fun k hk => ⟨fun g => ((h k hk).1 g).2, fun g => ((h k hk).2.1 g).2⟩)
  have e2 := msF_N (gr := X.2.1 24) (ca := X.2.2.2.1 14) (grp := grp) (A := A) n hA
  have hf : ∀ l, l < 2 ^ 62 → gaF (X.2.1 24) (X.2.2.2.1 14) grp (lN l) n = lN (sN A l n) := fun l hl => gaF_N hl n hA
  have hlow : ∃ l, lowM grp n X = lN l ∧ l ≤ mxN A n ∧ sN A l n ≤ toN E n ∧ Given A n (toN E n) (gvN A l (toN E n - sN A l n)) := by
    unfold lowM
    rw [e1, e2, pk_lT (by omega), Int.toNat_natCast]
    by_cases q : toN E n < toN A n
    · have hG := bs_G (f := fun z => gaF (X.2.1 24) (X.2.2.2.1 14) grp z n) (A := A) (n := n) (D := toN E n) (by omega) hf (by omega) 62 0 (mxN A n + 1) (by omega) (by omega) (by omega) (by rw [sN_0]; omega) (by rw [sN_top A _ n (fun k hk => by have := mxN_ge A n k hk; omega)]; exact q)
      refine ⟨_, rfl, ?_, hG.1, Or.inl ⟨q, _, hG, fun k _ => rfl⟩⟩
      apply Classical.byContradiction
      intro w
      have := sN_mono A (show mxN A n ≤ _ from Nat.le_of_lt (Nat.lt_of_not_le w)) n
      rw [sN_top A (mxN A n) n (fun k hk => mxN_ge A n k hk)] at this
      have := hG.1
      omega
    · have hl := bs_T (f := fun z => gaF (X.2.1 24) (X.2.2.2.1 14) grp z n) (A := A) (n := n) (D := toN E n) (by omega) hf (by omega) 62 0 (mxN A n + 1) (by omega) (by omega) (by omega)
      have hl' : bsN (fun z => gaF (X.2.1 24) (X.2.2.2.1 14) grp z n) (lN (toN E n)) 62 0 (mxN A n + 1) = mxN A n := by omega
      rw [hl']
      have hs := sN_le A (mxN A n) n
      refine ⟨_, rfl, Nat.le_refl _, by omega, Or.inr ⟨by omega, ?_⟩⟩
      intro k hk
      have := mxN_ge A n k hk
      unfold gvN
      rw [if_neg (by omega), Nat.min_eq_left this, Nat.add_zero]
  obtain ⟨l, l1, l2, l3, l4⟩ := hlow
  unfold standM
  dsimp only
  rw [l1, e1, hf l (by omega), lN_sub l3]
  obtain ⟨g1, g2, g3, g4, g5⟩ := gv_res (A := A) (l := l) (R := toN E n - sN A l n) (grp := grp) (X := X) (by omega) (by omega) n hA
  rw [Given.sum l4] at g3
  generalize it (gvB grp (lN l)) n (X, lN (toN E n - sN A l n), 0) = p at *
  have hG2 : p.1.2.1 24 = X.2.1 24 := g1.2.1 _ (by decide)
  have hL2 : p.1.2.2.2.1 16 = X.2.2.2.1 16 := g1.2.2.2.1 _ (by decide)
  rw [g3]
  obtain ⟨p1, p2, p3, p4⟩ := py_res (E := E) (Q := min (toN E n) (toN A n)) (grp := grp) (X := p.1) (by omega) n (fun k hk => ⟨fun g => by rw [hL2]; rw [hG2] at g; exact ((h k hk).1 g).2, fun g => by rw [hG2] at g; exact ((h k hk).2.1 g).2, by have := (h k hk).2.2.2; omega⟩)
  refine ⟨_, l4, Fr.tr (Fr.wi p1 (fun n q => q) (fun n q => q) (fun n q => q) (by decide)) (Fr.wi g1 (fun n q => q) (fun n q => q) (fun n q => q) (by decide)), ?_, ?_⟩
  · intro k hk g
    rw [p1.2.2.2.1 15 (by decide)]
    exact ⟨g4 k hk g, p3 k hk (by rw [hG2]; exact g)⟩
  · intro k hk
    rw [p1.2.2.2.1 15 (by decide), p4 k (by rw [hG2]; exact hk), hL2]
    exact ⟨g5 k hk, rfl⟩
end STD
