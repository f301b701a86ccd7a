section WKD
variable {l r : Nat} {bg : Int32} {pl hr : Nat → Int32} {Q : Nat → Nat → Nat → Nat → Int → Prop}
def InvX (l r : Nat) (bg : Int32) (pl hr : Nat → Int32) (Q : Nat → Nat → Nat → Nat → Int → Prop) (I : Nat) (X : St) : Prop := X.1 13 = bg ∧ X.2.1 14 = pl ∧ X.2.1 15 = hr ∧ InvC l r bg pl hr Q I (X.2.1 16) (X.2.1 17)
theorem goB_inv {a b s m : Nat} {X : St} (hR : RdC l r bg pl) (hQ : StC l r bg pl hr Q) (ha : a ≤ l) (hb : b ≤ r) (hs : s < 2) (hm : m ≤ a + b) (h : InvX l r bg pl hr Q (cellN r a b s m) X) : InvX l r bg pl hr Q (cellN r a b s m + 1) (goB l r a b s (posC bg pl l a b s) m X) := by
  obtain ⟨h1, h2, h3, h4⟩ := h
  have he := goB_eq l r a b s (posC bg pl l a b s) m X
  refine ⟨(congrFun he.1 _).trans h1, (he.2.2 _ (by decide) (by decide)).trans h2, (he.2.2 _ (by decide) (by decide)).trans h3, ?_⟩
  by_cases hx : X.2.1 16 (cellN r a b s m) = 1000000
  · have e : goB l r a b s (posC bg pl l a b s) m X = X := by unfold goB; rw [if_pos hx]
    rw [e]
    refine ⟨h4.1, h4.2.1, ?_⟩
    intro a' b' s' m' ha' hb' hs' hm' hlt
    by_cases z : cellN r a' b' s' m' = cellN r a b s m
    · intro hne
      rw [z] at hne
      exact absurd hx hne
    · exact h4.2.2 a' b' s' m' ha' hb' hs' hm' (by omega)
  · obtain ⟨e1, e2⟩ := goB_e (l := l) (here := posC bg pl l a b s) hx
    rw [e1, e2, h2, h3]
    exact go_inv hR hQ ha hb hs hm h4 hx
theorem cell_u {r a b s m m' : Nat} (h : cellN r a b s m < cellN r a b s m') : m < m' := by unfold cellN at h; omega
theorem cell_mid {r a b s a' b' s' m' k : Nat} (hb : b ≤ r) (hb' : b' ≤ r) (hs : s < 2) (hs' : s' < 2) (hm' : m' ≤ 16) (h1 : cellN r a b s k ≤ cellN r a' b' s' m') (h2 : cellN r a' b' s' m' < cellN r a b s 17) : a' = a ∧ b' = b ∧ s' = s ∧ k ≤ m' := by
  have e : ∃ m, m ≤ 16 ∧ cellN r a' b' s' m' = cellN r a b s m := by
    refine ⟨cellN r a' b' s' m' - cellN r a b s 0, ?_, ?_⟩
    · unfold cellN at *
      omega
    · unfold cellN at *
      omega
  obtain ⟨m, hm, e⟩ := e
  obtain ⟨x1, x2, x3, x4⟩ := cell_inj hb' hb hs' hs hm' hm e
  refine ⟨x1, x2, x3, ?_⟩
  rw [e] at h1
  unfold cellN at h1
  omega
theorem goS_inv {a b s : Nat} {X : St} (hR : RdC l r bg pl) (hQ : StC l r bg pl hr Q) (ha : a ≤ l) (hb : b ≤ r) (hs : s < 2) (h : InvX l r bg pl hr Q (cellN r a b s 0) X) : InvX l r bg pl hr Q (cellN r a b s 17) (goS l r a b s X) := by
  have ep : endP X l a b s = posC bg pl l a b s := by
    obtain ⟨h1, h2, h3, h4⟩ := h
    unfold endP posC
    rw [h1, h2]
  unfold goS
  rw [ep]
  have L : ∀ k, k ≤ a + b + 1 → InvX l r bg pl hr Q (cellN r a b s k) (it (goB l r a b s (posC bg pl l a b s)) k X) := by
    intro k
    induction k with
    | zero =>
      intro _
      rw [it_0]
      exact h
    | succ k ih =>
      intro hk
      have h' := ih (by omega)
      rw [it_s, ← cell_s]
      generalize it (goB l r a b s (posC bg pl l a b s)) k X = Y at h' ⊢
      exact goB_inv hR hQ ha hb hs (by omega) h'
  obtain ⟨i1, i2, i3, i4, i5, i6⟩ := L (a + b + 1) (Nat.le_refl _)
  refine ⟨i1, i2, i3, i4, i5, ?_⟩
  have h16 := hR.1
  intro a' b' s' m' ha' hb' hs' hm' hlt
  rcases Nat.lt_or_ge (cellN r a' b' s' m') (cellN r a b s (a + b + 1)) with q | q
  · exact i6 a' b' s' m' ha' hb' hs' hm' q
  · obtain ⟨x1, x2, x3, x4⟩ := cell_mid hb hb' hs hs' (by omega) q hlt
    omega
theorem goAB_inv {a b : Nat} {X : St} (hR : RdC l r bg pl) (hQ : StC l r bg pl hr Q) (ha : a ≤ l) (hb : b ≤ r) (h : InvX l r bg pl hr Q (cellN r a b 0 0) X) : InvX l r bg pl hr Q (cellN r a (b + 1) 0 0) (goAB l r a b X) := by
  have h1 := goS_inv hR hQ ha hb (by omega) h
  have e1 : cellN r a b 0 17 = cellN r a b 1 0 := by unfold cellN; omega
  have e2 : cellN r a b 1 17 = cellN r a (b + 1) 0 0 := by unfold cellN; omega
  rw [e1] at h1
  have h2 := goS_inv hR hQ ha hb (by omega) h1
  rw [e2] at h2
  exact h2
theorem goA_inv {a : Nat} {X : St} (hR : RdC l r bg pl) (hQ : StC l r bg pl hr Q) (ha : a ≤ l) (h : InvX l r bg pl hr Q (cellN r a 0 0 0) X) : InvX l r bg pl hr Q (cellN r (a + 1) 0 0 0) (goA l r a X) := by
  have L : ∀ k, k ≤ r + 1 → InvX l r bg pl hr Q (cellN r a k 0 0) (it (goAB l r a) k X) := by
    intro k
    induction k with
    | zero =>
      intro _
      rw [it_0]
      exact h
    | succ k ih =>
      intro hk
      have h' := ih (by omega)
      rw [it_s]
      generalize it (goAB l r a) k X = Y at h' ⊢
      exact goAB_inv hR hQ ha (by omega) h'
  have h1 := L (r + 1) (Nat.le_refl _)
  have e : cellN r a (r + 1) 0 0 = cellN r (a + 1) 0 0 0 := by
    unfold cellN
    rw [show (a + 1) * (r + 1) = a * (r + 1) + (r + 1) from Nat.succ_mul a (r + 1)]
    omega
  rw [e] at h1
  exact h1
theorem goW_inv {X : St} (hR : RdC l r bg pl) (hQ : StC l r bg pl hr Q) (h : InvX l r bg pl hr Q 0 X) : InvX l r bg pl hr Q (cellN r (l + 1) 0 0 0) (it (goA l r) (l + 1) X) := by
  have L : ∀ k, k ≤ l + 1 → InvX l r bg pl hr Q (cellN r k 0 0 0) (it (goA l r) k X) := by
    intro k
    induction k with
    | zero =>
      intro _
      rw [it_0]
      have e : cellN r 0 0 0 0 = 0 := by unfold cellN; omega
      rw [e]
      exact h
    | succ k ih =>
      intro hk
      have h' := ih (by omega)
      rw [it_s]
      generalize it (goA l r) k X = Y at h' ⊢
      exact goA_inv hR hQ (by omega) h'
  exact L (l + 1) (Nat.le_refl _)
theorem cell_top {a b s m : Nat} (ha : a ≤ l) (hb : b ≤ r) (hs : s < 2) (hm : m ≤ 16) : cellN r a b s m < cellN r (l + 1) 0 0 0 := by
  have h1 : a * (r + 1) ≤ l * (r + 1) := Nat.mul_le_mul_right _ ha
  unfold cellN
  rw [show (l + 1) * (r + 1) = l * (r + 1) + (r + 1) from Nat.succ_mul l (r + 1)]
  generalize a * (r + 1) = A at *
  generalize l * (r + 1) = B at *
  omega
/-- the walk's tables -/
theorem walkS_inv {n : Nat} {S : St} (hl : lcF (S.2.1 14) bg n 0 = l) (hln : l + r = n) (hR : RdC l r bg (S.2.1 14)) (hQ : StC l r bg (S.2.1 14) (S.2.1 15) Q) (q0 : Q 0 0 0 0 0) : SndC l r Q ((walkS bg n S).2.1 16) ∧ SndH l r Q ((walkS bg n S).2.1 17) ∧ (∀ a b s m, a ≤ l → b ≤ r → s < 2 → m ≤ a + b → CloC l r bg (S.2.1 14) (S.2.1 15) ((walkS bg n S).2.1 16) ((walkS bg n S).2.1 17) a b s m) := by
  have h16 := hR.1
  have er : n - l = r := by omega
  have h0 : InvX l r bg (S.2.1 14) (S.2.1 15) Q 0 (walk0 bg n S) := by
    have e0 : ∀ j, j < 2754 → (walk0 bg n S).2.1 16 j = if j = 0 then 0 else 1000000 := by
      intro j hj
      show upd (fillF 2754 1000000 (S.2.1 16)) 0 0 j = _
      by_cases z : j = 0
      · rw [if_pos z, z, upd_eq]
      · rw [if_neg z, upd_ne z]
        exact fill_at hj
    have e1 : ∀ j, j < 17 → (walk0 bg n S).2.1 17 j = 1000000 := by
      intro j hj
      show fillF 17 1000000 (S.2.1 17) j = _
      exact fill_at hj
    refine ⟨rfl, rfl, rfl, ?_, ?_, ?_⟩
    · intro a b s m ha hb hs hm hne
      have hc := cell_le h16 ha hb hs hm
      rw [e0 _ (by omega)] at hne ⊢
      by_cases z : cellN r a b s m = 0
      · have z' : cellN r a b s m = cellN r 0 0 0 0 := by rw [z]; unfold cellN; omega
        obtain ⟨x1, x2, x3, x4⟩ := cell_inj hb (by omega) hs (by omega) hm (by omega) z'
        rw [if_pos z, x1, x2, x3, x4]
        exact ⟨q0, by decide, by decide, by omega⟩
      · rw [if_neg z] at hne
        exact absurd rfl hne
    · intro m hm hne
      rw [e1 m (by omega)] at hne
      exact absurd rfl hne
    · intro a b s m _ _ _ _ hlt
      omega
  have h1 := goW_inv hR hQ h0
  unfold walkS
  dsimp only
  rw [hl, er]
  obtain ⟨i1, i2, i3, i4, i5, i6⟩ := h1
  exact ⟨i4, i5, fun a b s m ha hb hs hm => i6 a b s m ha hb hs hm (cell_top ha hb hs (by omega))⟩
end WKD
