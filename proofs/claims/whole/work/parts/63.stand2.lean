section STE
theorem fill_at' {n k : Nat} {x : Int64} {f : Nat → Int64} (h : k < n) : fillF n x f k = x := by unfold fillF; rw [if_pos h]
theorem shareF_eq {X S : St} {b i : Nat} {v : Int64} (h : X.2.1 = S.2.1) : shareF X b i v = shareF S b i v := by unfold shareF; rw [h]
theorem sd_res {A E : Nat → Nat} {n b : Nat} {grp : Int32} {S X0 : St} (hS : X0.2.1 = S.2.1) (h0 : ∀ k, k < 40 → X0.2.2.2.1 5 k = 0) (hw : X0.2.2.1 0 = 0) (ha : X0.2.2.1 1 = 0) (h : ∀ k, k < n → (X0.2.1 0 k = grp → shareF X0 b 2 (X0.2.2.2.1 2 k - X0.2.2.2.1 4 k) = lN (A k) ∧ X0.2.2.2.1 1 k - X0.2.2.2.1 4 k = lN (E k)) ∧ (¬ X0.2.1 0 k = grp → A k = 0 ∧ E k = 0)) (hn : n ≤ 40) : ∀ m, m ≤ n → Fr [] [] [0, 1] [5] (it (sdB b grp) m X0) X0 ∧ (∀ k, k < m → (it (sdB b grp) m X0).2.2.2.1 5 k = lN (A k)) ∧ (∀ k, m ≤ k → (it (sdB b grp) m X0).2.2.2.1 5 k = X0.2.2.2.1 5 k) ∧ (it (sdB b grp) m X0).2.2.1 1 = lN (toN A m) ∧ (it (sdB b grp) m X0).2.2.1 0 = lN (toN E m)
  | 0, _ => by
    rw [it_0]
    exact ⟨Fr.rf, fun k hk => absurd hk (by omega), fun k _ => rfl, ha, hw⟩
  | m + 1, hm => by
    obtain ⟨i1, i2, i3, i4, i5⟩ := sd_res hS h0 hw ha h hn m (by omega)
    obtain ⟨h1, h2⟩ := h m (by omega)
    rw [it_s]
    have hx := eqB.it (sdB_eq b grp) m X0
    generalize it (sdB b grp) m X0 = X at *
    have hA : X.2.1 = X0.2.1 := hx.2.1
    unfold sdB
    rw [hA]
    by_cases g : X0.2.1 0 m = grp
    · obtain ⟨a1, a2⟩ := h1 g
      have e1 : shareF X b 2 (X.2.2.2.1 2 m - X.2.2.2.1 4 m) = lN (A m) := by
        rw [shareF_eq hA, i1.2.2.2.1 2 (by decide), i1.2.2.2.1 4 (by decide)]
        exact a1
      have e2 : X.2.2.2.1 1 m - X.2.2.2.1 4 m = lN (E m) := by
        rw [i1.2.2.2.1 1 (by decide), i1.2.2.2.1 4 (by decide)]
        exact a2
      rw [if_pos g, e1]
      dsimp only
      refine ⟨Fr.L (by decide) (Fr.L (by decide) (Fr.B (by decide) i1)), ?_, ?_, ?_, ?_⟩
      · intro k hk
        show vp_updL (X.2.2.2.1 5) m (lN (A m)) k = _
        rcases lt_split hk with hk | rfl
        · rw [updL_ne (by omega)]
          exact i2 k hk
        · rw [updL_eq]
      · intro k hk
        show vp_updL (X.2.2.2.1 5) m (lN (A m)) k = _
        rw [updL_ne (by omega)]
        exact i3 k (by omega)
      · show X.2.2.1 1 + vp_updL (X.2.2.2.1 5) m (lN (A m)) m = _
        rw [updL_eq, i4, lN_add, toN]
      · show X.2.2.1 0 + (X.2.2.2.1 1 m - X.2.2.2.1 4 m) = _
        rw [e2, i5, lN_add, toN]
    · obtain ⟨a1, a2⟩ := h2 g
      rw [if_neg g]
      refine ⟨i1, ?_, ?_, ?_, ?_⟩
      · intro k hk
        rcases lt_split hk with hk | rfl
        · exact i2 k hk
        · rw [i3 k (Nat.le_refl _), h0 k (by omega), a1]
          rfl
      · intro k hk
        exact i3 k (by omega)
      · rw [i4, toN, a1, Nat.add_zero]
      · rw [i5, toN, a2, Nat.add_zero]
/-- the component's stand of a group -/
theorem standS_res {A E : Nat → Nat} {n b : Nat} {grp : Int32} {S : St} (hn : n ≤ 40) (h : ∀ k, k < n → (S.2.1 0 k = grp → shareF S b 2 (S.2.2.2.1 2 k - S.2.2.2.1 4 k) = lN (A k) ∧ S.2.2.2.1 1 k - S.2.2.2.1 4 k = lN (E k)) ∧ (¬ S.2.1 0 k = grp → A k = 0 ∧ E k = 0) ∧ A k < 2 ^ 40 ∧ E k < 2 ^ 25) : ∃ gv, Given A n (toN E n) gv ∧ Fr [] [] [0, 1, 2] [5, 6, 7] (standS b grp n S) S ∧ (∀ k, k < n → S.2.1 0 k = grp → (standS b grp n S).2.2.2.1 6 k = lN (gv k) ∧ (standS b grp n S).2.2.2.1 7 k = lN (min (E k) (qN E (min (toN E n) (toN A n)) k))) ∧ (standS b grp n S).2.2.1 0 = lN (toN E n) ∧ (standS b grp n S).2.2.1 2 = lN (min (toN E n) (toN A n)) := by
  have hE : toN E n < 2 ^ 31 := by
    have h1 := toN_le E (2 ^ 25) n (fun k hk => Nat.le_of_lt (h k hk).2.2.2)
    have h2 : n * 2 ^ 25 ≤ 40 * 2 ^ 25 := Nat.mul_le_mul_right _ hn
    omega
  obtain ⟨i1, i2, i3, i4, i5⟩ := sd_res (A := A) (E := E) (n := n) (b := b) (grp := grp) (S := S) (X0 := sd0 S) rfl (fun k hk => fill_at' hk) rfl rfl (fun k hk => ⟨fun g => (h k hk).1 g, (h k hk).2.1⟩) hn n (Nat.le_refl _)
  unfold standS
  dsimp only
  have f0 : Fr [] [] [0, 1] [5] (sd0 S) S := Fr.L (by decide) (Fr.L (by decide) (Fr.B (by decide) Fr.rf))
  have f1 := Fr.tr i1 f0
  generalize it (sdB b grp) n (sd0 S) = X at *
  obtain ⟨gv, g1, g2, g3, g4⟩ := give_res (A := A) (D := toN E n) (X := X) hn hE (fun k hk => ⟨i2 k hk, (h k hk).2.2.1⟩) i5 i4
  generalize giveS n X = Y at *
  have hG : Y.2.1 0 = S.2.1 0 := (g2.2.1 _ (by decide)).trans (f1.2.1 _ (by decide))
  have hL : Y.2.2.2.1 1 = S.2.2.2.1 1 := (g2.2.2.2.1 _ (by decide)).trans (f1.2.2.2.1 _ (by decide))
  have hO : Y.2.2.2.1 4 = S.2.2.2.1 4 := (g2.2.2.2.1 _ (by decide)).trans (f1.2.2.2.1 _ (by decide))
  rw [g4]
  obtain ⟨p1, p2, p3⟩ := pd_res (E := E) (Q := min (toN E n) (toN A n)) (grp := grp) (X := Y) (by omega) n (fun k hk => ⟨fun g => by rw [hL, hO]; rw [hG] at g; exact ((h k hk).1 g).2, fun g => by rw [hG] at g; exact ((h k hk).2.1 g).2, by have := (h k hk).2.2.2; omega⟩)
  refine ⟨gv, g1, Fr.tr (Fr.wi p1 (fun n q => q) (fun n q => q) (by decide) (by decide)) (Fr.tr (Fr.wi g2 (fun n q => q) (fun n q => q) (by decide) (by decide)) (Fr.wi f1 (fun n q => q) (fun n q => q) (by decide) (by decide))), ?_, ?_, ?_⟩
  · intro k hk g
    rw [p1.2.2.2.1 6 (by decide)]
    exact ⟨g3 k hk, p3 k hk (by rw [hG]; exact g)⟩
  · rw [p1.2.2.1 0 (by decide), g2.2.2.1 0 (by decide)]
    exact i5
  · rw [p1.2.2.1 2 (by decide)]
    exact g4
def inG (gr : Nat → Int32) (grp : Int32) (A : Nat → Nat) (k : Nat) : Nat := if gr k = grp then A k else 0
/-- what the model's ten stands leave to one farmer -/
def Fin (gr : Nat → Int32) (A E : Nat → Nat) (n : Nat) (grp : Int32) (k : Nat) (X : St) : Prop := ∃ gv, Given (inG gr grp A) n (toN (inG gr grp E) n) gv ∧ X.2.2.2.1 15 k = lN (gv k) ∧ X.2.2.2.1 16 k = lN (inG gr grp E k - min (inG gr grp E k) (qN (inG gr grp E) (min (toN (inG gr grp E) n) (toN (inG gr grp A) n)) k))
theorem rounds {A E : Nat → Nat} {n : Nat} {Y : St} (hn : n ≤ 40) (h : ∀ k, k < n → Y.2.2.2.1 14 k = lN (A k) ∧ Y.2.2.2.1 16 k = lN (E k) ∧ A k < 2 ^ 40 ∧ E k < 2 ^ 25) : ∀ m, m ≤ 10 → Fr [] [] [] [15, 16] (it (stB n) m Y) Y ∧ ∀ k, k < n → ∀ j, j < 10 → Y.2.1 24 k = nI j → (j < m → Fin (Y.2.1 24) A E n (nI j) k (it (stB n) m Y)) ∧ (m ≤ j → (it (stB n) m Y).2.2.2.1 15 k = Y.2.2.2.1 15 k ∧ (it (stB n) m Y).2.2.2.1 16 k = Y.2.2.2.1 16 k)
  | 0, _ => by
    rw [it_0]
    exact ⟨Fr.rf, fun k _ j _ _ => ⟨fun q => absurd q (by omega), fun _ => ⟨rfl, rfl⟩⟩⟩
  | m + 1, hm => by
    obtain ⟨i1, i2⟩ := rounds hn h m (by omega)
    rw [it_s]
    generalize it (stB n) m Y = X at *
    have hG : X.2.1 24 = Y.2.1 24 := i1.2.1 _ (by decide)
    have hC : X.2.2.2.1 14 = Y.2.2.2.1 14 := i1.2.2.2.1 _ (by decide)
    obtain ⟨gv, s1, s2, s3, s4⟩ := standM_res (A := inG (Y.2.1 24) (nI m) A) (E := inG (Y.2.1 24) (nI m) E) (grp := nI m) (X := X) hn (fun k hk => by
      obtain ⟨a1, a2, a3, a4⟩ := h k hk
      rw [hG, hC]
      unfold inG
      by_cases g : Y.2.1 24 k = nI m
      · rw [if_pos g, if_pos g]
        exact ⟨fun _ => ⟨a1, (((i2 k hk m (by omega) g).2 (Nat.le_refl _)).2).trans a2⟩, fun q => absurd g q, a3, a4⟩
      · rw [if_neg g, if_neg g]
        exact ⟨fun q => absurd q g, fun _ => ⟨rfl, rfl⟩, by decide, by decide⟩)
    rw [hG] at s3 s4
    have eS : stB n m X = standM (nI m) n X := rfl
    rw [eS]
    refine ⟨Fr.tr s2 i1, ?_⟩
    intro k hk j hj g
    by_cases e : j = m
    · subst e
      exact ⟨fun _ => ⟨gv, s1, (s3 k hk g).1, (s3 k hk g).2⟩, fun q => absurd q (by omega)⟩
    · have hne : k < n → ¬ Y.2.1 24 k = nI m := by
        intro _ z
        rw [g] at z
        exact e ((nI_eq (by omega) (by omega)).mp z)
      obtain ⟨t1, t2⟩ := s4 k hne
      refine ⟨fun q => ?_, fun q => ?_⟩
      · obtain ⟨gv', f1, f2, f3⟩ := (i2 k hk j hj g).1 (by omega)
        exact ⟨gv', f1, t1.trans f2, t2.trans f3⟩
      · have := (i2 k hk j hj g).2 (by omega)
        exact ⟨t1.trans this.1, t2.trans this.2⟩
end STE
