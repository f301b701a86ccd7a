section WKQ
variable {m nv : Nat} {pm pl vf vh : Nat → Int32} {Q : Nat → Nat → Nat → Nat → Int → Prop}
theorem InvY.mono {Pr Pr' : Nat → Nat → Nat → Nat → Prop} {X : St} (h : InvY m nv pm pl vf vh Q Pr X) (hp : ∀ lo2 hi2 s2 n2, lo2 ≤ hi2 → hi2 < m → s2 < 2 → n2 ≤ nv → Pr' lo2 hi2 s2 n2 → Pr lo2 hi2 s2 n2) : InvY m nv pm pl vf vh Q Pr' X := by
  obtain ⟨p1, p2, p3, p4, p5, p6⟩ := h
  exact ⟨p1, p2, p3, p4, p5, fun lo2 hi2 s2 n2 a1 a2 a3 a4 z => p6 lo2 hi2 s2 n2 a1 a2 a3 a4 (hp lo2 hi2 s2 n2 a1 a2 a3 a4 z)⟩
theorem wkS_inv {lo hi s : Nat} {X : St} {Pr : Nat → Nat → Nat → Nat → Prop} (hR : RdM m pm) (hnv : nv ≤ 16) (hQ : StM m nv pm pl vf vh Q) (h1 : lo ≤ hi) (h2 : hi < m) (hs : s < 2) (hw : ∀ lo2 hi2 s2 n2, lo2 ≤ hi2 → Pr lo2 hi2 s2 n2 → hi2 - lo2 ≤ hi - lo) (h : InvY m nv pm pl vf vh Q Pr X) : InvY m nv pm pl vf vh Q (fun lo2 hi2 s2 n2 => Pr lo2 hi2 s2 n2 ∨ (lo2 = lo ∧ hi2 = hi ∧ s2 = s)) (wkS m nv lo hi s X) := by
  unfold wkS
  have L : ∀ k, k ≤ nv + 1 → InvY m nv pm pl vf vh Q (fun lo2 hi2 s2 n2 => Pr lo2 hi2 s2 n2 ∨ (lo2 = lo ∧ hi2 = hi ∧ s2 = s ∧ n2 < k)) (it (wkN m nv lo hi s) k X) := by
    intro k
    induction k with
    | zero =>
      intro _
      rw [it_0]
      refine h.mono ?_
      intro lo2 hi2 s2 n2 _ _ _ _ z
      rcases z with z | ⟨_, _, _, z⟩
      · exact z
      · omega
    | succ k ih =>
      intro hk
      have h' := ih (by omega)
      rw [it_s]
      generalize it (wkN m nv lo hi s) k X = Y at h' ⊢
      refine wkN_inv hR hnv hQ h1 h2 hs (by omega) ?_ ?_ h'
      · intro lo2 hi2 s2 n2 a z
        rcases z with z | ⟨z1, z2, _, _⟩
        · exact hw lo2 hi2 s2 n2 a z
        · omega
      · intro lo2 hi2 s2 n2 _ _ _ _ z
        rcases z with z | ⟨z1, z2, z3, z4⟩
        · exact Or.inl (Or.inl z)
        · rcases Nat.lt_or_ge n2 k with q | q
          · exact Or.inl (Or.inr ⟨z1, z2, z3, q⟩)
          · exact Or.inr ⟨z1, z2, z3, by omega⟩
  refine (L (nv + 1) (Nat.le_refl _)).mono ?_
  intro lo2 hi2 s2 n2 _ _ _ a4 z
  rcases z with z | ⟨z1, z2, z3⟩
  · exact Or.inl z
  · exact Or.inr ⟨z1, z2, z3, by omega⟩
theorem wkL_inv {lo w : Nat} {X : St} {Pr : Nat → Nat → Nat → Nat → Prop} (hR : RdM m pm) (hnv : nv ≤ 16) (hQ : StM m nv pm pl vf vh Q) (h2 : lo + w < m) (hw : ∀ lo2 hi2 s2 n2, lo2 ≤ hi2 → Pr lo2 hi2 s2 n2 → hi2 - lo2 ≤ w) (h : InvY m nv pm pl vf vh Q Pr X) : InvY m nv pm pl vf vh Q (fun lo2 hi2 s2 n2 => Pr lo2 hi2 s2 n2 ∨ (lo2 = lo ∧ hi2 = lo + w)) (wkL m nv w lo X) := by
  have e : wkL m nv w lo X = wkS m nv lo (lo + w) 1 (wkS m nv lo (lo + w) 0 X) := rfl
  rw [e]
  have i1 := wkS_inv (lo := lo) (hi := lo + w) (s := 0) hR hnv hQ (by omega) h2 (by omega) (fun lo2 hi2 s2 n2 a z => by have := hw lo2 hi2 s2 n2 a z; omega) h
  generalize wkS m nv lo (lo + w) 0 X = Y at i1 ⊢
  have i2 := wkS_inv (lo := lo) (hi := lo + w) (s := 1) hR hnv hQ (by omega) h2 (by omega) (fun lo2 hi2 s2 n2 a z => by
    rcases z with z | ⟨z1, z2, _⟩
    · have := hw lo2 hi2 s2 n2 a z; omega
    · omega) i1
  refine i2.mono ?_
  intro lo2 hi2 s2 n2 _ _ a3 _ z
  rcases z with z | ⟨z1, z2⟩
  · exact Or.inl (Or.inl z)
  · by_cases q : s2 = 0
    · exact Or.inl (Or.inr ⟨z1, z2, q⟩)
    · exact Or.inr ⟨z1, z2, by omega⟩
theorem wkW_inv {w : Nat} {X : St} {Pr : Nat → Nat → Nat → Nat → Prop} (hR : RdM m pm) (hnv : nv ≤ 16) (hQ : StM m nv pm pl vf vh Q) (hw : ∀ lo2 hi2 s2 n2, lo2 ≤ hi2 → Pr lo2 hi2 s2 n2 → hi2 - lo2 ≤ w) (h : InvY m nv pm pl vf vh Q Pr X) : InvY m nv pm pl vf vh Q (fun lo2 hi2 s2 n2 => Pr lo2 hi2 s2 n2 ∨ hi2 = lo2 + w) (wkW m nv w X) := by
  unfold wkW
  have L : ∀ k, k ≤ m - w → InvY m nv pm pl vf vh Q (fun lo2 hi2 s2 n2 => Pr lo2 hi2 s2 n2 ∨ (hi2 = lo2 + w ∧ lo2 < k)) (it (wkL m nv w) k X) := by
    intro k
    induction k with
    | zero =>
      intro _
      rw [it_0]
      refine h.mono ?_
      intro lo2 hi2 s2 n2 _ _ _ _ z
      rcases z with z | ⟨_, z⟩
      · exact z
      · omega
    | succ k ih =>
      intro hk
      have h' := ih (by omega)
      rw [it_s]
      generalize it (wkL m nv w) k X = Y at h' ⊢
      refine (wkL_inv (lo := k) (w := w) hR hnv hQ (by omega) ?_ h').mono ?_
      · intro lo2 hi2 s2 n2 a z
        rcases z with z | ⟨z1, z2⟩
        · exact hw lo2 hi2 s2 n2 a z
        · omega
      · intro lo2 hi2 s2 n2 _ _ _ _ z
        rcases z with z | ⟨z1, z2⟩
        · exact Or.inl (Or.inl z)
        · rcases Nat.lt_or_ge lo2 k with q | q
          · exact Or.inl (Or.inr ⟨z1, q⟩)
          · exact Or.inr ⟨by omega, by omega⟩
  refine (L (m - w) (Nat.le_refl _)).mono ?_
  intro lo2 hi2 s2 n2 _ a2 _ _ z
  rcases z with z | z
  · exact Or.inl z
  · exact Or.inr ⟨z, by omega⟩
theorem wkA_inv {X : St} (hR : RdM m pm) (hnv : nv ≤ 16) (hQ : StM m nv pm pl vf vh Q) (h : InvY m nv pm pl vf vh Q (fun _ _ _ _ => False) X) : ∀ k, InvY m nv pm pl vf vh Q (fun lo2 hi2 _ _ => hi2 - lo2 < k) (it (wkW m nv) k X) := by
  intro k
  induction k with
  | zero =>
    rw [it_0]
    refine h.mono ?_
    intro lo2 hi2 s2 n2 _ _ _ _ z
    omega
  | succ k ih =>
    rw [it_s]
    generalize it (wkW m nv) k X = Y at ih ⊢
    refine (wkW_inv (w := k) hR hnv hQ ?_ ih).mono ?_
    · intro lo2 hi2 s2 n2 _ z
      omega
    · intro lo2 hi2 s2 n2 a1 _ _ _ z
      rcases Nat.lt_or_ge (hi2 - lo2) k with q | q
      · exact Or.inl q
      · exact Or.inr (by omega)
/-- values fall -/
def leM (X S : St) : Prop := ∀ j, (X.2.1 47 j).toInt ≤ (S.2.1 47 j).toInt
theorem leM.rf {S : St} : leM S S := fun _ => Int.le_refl _
theorem leM.tr {X Y S : St} (h : leM Y X) (h2 : leM X S) : leM Y S := fun j => Int.le_trans (h j) (h2 j)
theorem leM.it {f : Nat → St → St} (h : ∀ k X, leM (f k X) X) : ∀ k S, leM (it f k S) S
  | 0, _ => leM.rf
  | k + 1, S => (h k _).tr (leM.it h k S)
theorem wdL_le (nv lo hi s n : Nat) (X : St) : leM (wdL nv lo hi s n X) X := by
  unfold wdL
  split
  · exact leM.rf
  · split
    · exact leM.rf
    · intro j
      rw [wdT_e]
      exact rel_le _ _ _ _
theorem wdR_le (m nv lo hi s n : Nat) (X : St) : leM (wdR m nv lo hi s n X) X := by
  unfold wdR
  split
  · exact leM.rf
  · split
    · exact leM.rf
    · intro j
      rw [wdT_e]
      exact rel_le _ _ _ _
theorem wkN_le (m nv lo hi s n : Nat) (X : St) : leM (wkN m nv lo hi s n X) X := (wdR_le _ _ _ _ _ _ _).tr (wdL_le _ _ _ _ _ _)
theorem wkS_le (m nv lo hi s : Nat) (X : St) : leM (wkS m nv lo hi s X) X := leM.it (wkN_le m nv lo hi s) _ _
theorem wkL_le (m nv w lo : Nat) (X : St) : leM (wkL m nv w lo X) X := leM.it (wkS_le m nv lo (lo + w)) _ _
theorem wkW_le (m nv w : Nat) (X : St) : leM (wkW m nv w X) X := leM.it (wkL_le m nv w) _ _
/-- the same of the component's table -/
def leC (X S : St) : Prop := ∀ j, (X.2.1 16 j).toInt ≤ (S.2.1 16 j).toInt
theorem leC.rf {S : St} : leC S S := fun _ => Int.le_refl _
theorem leC.tr {X Y S : St} (h : leC Y X) (h2 : leC X S) : leC Y S := fun j => Int.le_trans (h j) (h2 j)
theorem leC.it {f : Nat → St → St} (h : ∀ k X, leC (f k X) X) : ∀ k S, leC (it f k S) S
  | 0, _ => leC.rf
  | k + 1, S => (h k _).tr (leC.it h k S)
theorem arrS_le (r a b s m : Nat) (t l : Int32) (X : St) : leC (arrS (cellN r a b s m) t l X) X := by
  intro j
  rw [arrS_e]
  exact rel_le _ _ _ _
theorem goB_le (l r a b s : Nat) (here : Int32) (m : Nat) (X : St) : leC (goB l r a b s here m X) X := by
  unfold goB
  by_cases hx : X.2.1 16 (cellN r a b s m) = 1000000
  · rw [if_pos hx]
    exact leC.rf
  · rw [if_neg hx]
    dsimp only
    have h0 : leC (setA X 17 (upd (X.2.1 17) m (if X.2.1 16 (cellN r a b s m) < X.2.1 17 m then X.2.1 16 (cellN r a b s m) else X.2.1 17 m))) X := leC.rf
    by_cases h1 : l ≤ a
    · rw [if_pos h1]
      by_cases h2 : r ≤ b
      · rw [if_pos h2]
        exact h0
      · rw [if_neg h2]
        exact (arrS_le _ _ _ _ _ _ _ _).tr h0
    · rw [if_neg h1]
      by_cases h2 : r ≤ b
      · rw [if_pos h2]
        exact (arrS_le _ _ _ _ _ _ _ _).tr h0
      · rw [if_neg h2]
        exact (arrS_le _ _ _ _ _ _ _ _).tr ((arrS_le _ _ _ _ _ _ _ _).tr h0)
theorem goS_le (l r a b s : Nat) (X : St) : leC (goS l r a b s X) X := leC.it (goB_le l r a b s _) _ _
theorem goAB_le (l r a b : Nat) (X : St) : leC (goAB l r a b X) X := (goS_le l r a b 1 _).tr (goS_le l r a b 0 X)
theorem goA_le (l r a : Nat) (X : St) : leC (goA l r a X) X := leC.it (goAB_le l r a) _ _
end WKQ
