section WKP
variable {m nv : Nat} {pm pl vf vh : Nat → Int32} {Q : Nat → Nat → Nat → Nat → Int → Prop}
def InvY (m nv : Nat) (pm pl vf vh : Nat → Int32) (Q : Nat → Nat → Nat → Nat → Int → Prop) (Pr : Nat → Nat → Nat → Nat → Prop) (X : St) : Prop := X.2.1 46 = pm ∧ X.2.1 25 = pl ∧ X.2.1 44 = vf ∧ X.2.1 45 = vh ∧ InvM m nv pm pl vf vh Q Pr (X.2.1 47)
theorem eqE.k {Pr : Nat → Nat → Nat → Nat → Prop} {X Y : St} (e : eqE Y X) (h : InvY m nv pm pl vf vh Q Pr X) : Y.2.1 46 = pm ∧ Y.2.1 25 = pl ∧ Y.2.1 44 = vf ∧ Y.2.1 45 = vh := ⟨(e.2.2 _ (by decide)).trans h.1, (e.2.2 _ (by decide)).trans h.2.1, (e.2.2 _ (by decide)).trans h.2.2.1, (e.2.2 _ (by decide)).trans h.2.2.2.1⟩
/-- one cell of the model's table is worked off -/
theorem wkN_inv {lo hi s n : Nat} {X : St} {Pr Pr' : Nat → Nat → Nat → Nat → Prop} (hR : RdM m pm) (hnv : nv ≤ 16) (hQ : StM m nv pm pl vf vh Q) (h1 : lo ≤ hi) (h2 : hi < m) (hs : s < 2) (hn : n ≤ nv) (hw : ∀ lo2 hi2 s2 n2, lo2 ≤ hi2 → Pr lo2 hi2 s2 n2 → hi2 - lo2 ≤ hi - lo) (hp : ∀ lo2 hi2 s2 n2, lo2 ≤ hi2 → hi2 < m → s2 < 2 → n2 ≤ nv → Pr' lo2 hi2 s2 n2 → Pr lo2 hi2 s2 n2 ∨ (lo2 = lo ∧ hi2 = hi ∧ s2 = s ∧ n2 = n)) (h : InvY m nv pm pl vf vh Q Pr X) : InvY m nv pm pl vf vh Q Pr' (wkN m nv lo hi s n X) := by
  have hk := eqE.k (wkN_eq m nv lo hi s n X) h
  refine ⟨hk.1, hk.2.1, hk.2.2.1, hk.2.2.2, ?_⟩
  obtain ⟨p1, p2, p3, p4, p5, p6⟩ := h
  by_cases hx : X.2.1 47 (atN lo hi s n) = 1000000000
  · have e1 : wdL nv lo hi s n X = X := by unfold wdL; rw [if_pos hx]
    have e2 : wdR m nv lo hi s n X = X := by unfold wdR; rw [if_pos hx]
    unfold wkN
    rw [e1, e2]
    refine ⟨p5, ?_⟩
    intro lo2 hi2 s2 n2 a1 a2 a3 a4 hpr
    rcases hp lo2 hi2 s2 n2 a1 a2 a3 a4 hpr with z | ⟨z1, z2, z3, z4⟩
    · exact p6 lo2 hi2 s2 n2 a1 a2 a3 a4 z
    · rw [z1, z2, z3, z4]
      exact fun hne => absurd hx hne
  · have hkL := eqE.k (wdL_eq nv lo hi s n X) (Pr := Pr) ⟨p1, p2, p3, p4, p5, p6⟩
    have eL := (wk_e (m := m) (nv := nv) p1 p2 p3 p4 hx).1
    -- after the left
    have L : SndM m nv pm pl vf Q ((wdL nv lo hi s n X).2.1 47) ∧ (∀ j, ((wdL nv lo hi s n X).2.1 47 j).toInt ≤ (X.2.1 47 j).toInt) ∧ (∀ lo2 hi2 s2 n2, lo2 ≤ hi2 → hi2 < m → s2 < 2 → n2 ≤ 16 → hi2 - lo2 ≤ hi - lo → (wdL nv lo hi s n X).2.1 47 (atN lo2 hi2 s2 n2) = X.2.1 47 (atN lo2 hi2 s2 n2)) ∧ (0 < lo → ((wdL nv lo hi s n X).2.1 47 (atN (lo - 1) hi 0 (n + mtI pl vf vh (pm (lo - 1)) (tM pm lo hi s (lo - 1) (X.2.1 47 (atN lo hi s n)).toInt) nv))).toInt ≤ tM pm lo hi s (lo - 1) (X.2.1 47 (atN lo hi s n)).toInt) := by
      rw [eL]
      by_cases q : lo = 0
      · rw [if_pos q]
        exact ⟨p5, fun _ => Int.le_refl _, fun _ _ _ _ _ _ _ _ _ => rfl, fun z => absurd z (by omega)⟩
      · rw [if_neg q]
        obtain ⟨a1, a2, a3, a4⟩ := rx_L (vh := vh) hR hnv hQ (by omega) h1 h2 hs (by omega) p5 hx
        exact ⟨a1, a2, a3, fun _ => a4⟩
    obtain ⟨l1, l2, l3, l4⟩ := L
    have hc := l3 lo hi s n h1 h2 hs (by omega) (Nat.le_refl _)
    have hx' : ¬ (wdL nv lo hi s n X).2.1 47 (atN lo hi s n) = 1000000000 := by rw [hc]; exact hx
    unfold wkN
    have eR := (wk_e (m := m) (nv := nv) hkL.1 hkL.2.1 hkL.2.2.1 hkL.2.2.2 hx').2
    generalize wdL nv lo hi s n X = Y at *
    have R : SndM m nv pm pl vf Q ((wdR m nv lo hi s n Y).2.1 47) ∧ (∀ j, ((wdR m nv lo hi s n Y).2.1 47 j).toInt ≤ (Y.2.1 47 j).toInt) ∧ (∀ lo2 hi2 s2 n2, lo2 ≤ hi2 → hi2 < m → s2 < 2 → n2 ≤ 16 → hi2 - lo2 ≤ hi - lo → (wdR m nv lo hi s n Y).2.1 47 (atN lo2 hi2 s2 n2) = Y.2.1 47 (atN lo2 hi2 s2 n2)) ∧ (hi + 1 < m → ((wdR m nv lo hi s n Y).2.1 47 (atN lo (hi + 1) 1 (n + mtI pl vf vh (pm (hi + 1)) (tM pm lo hi s (hi + 1) (Y.2.1 47 (atN lo hi s n)).toInt) nv))).toInt ≤ tM pm lo hi s (hi + 1) (Y.2.1 47 (atN lo hi s n)).toInt) := by
      rw [eR]
      by_cases q : hi + 1 = m
      · rw [if_pos q]
        exact ⟨l1, fun _ => Int.le_refl _, fun _ _ _ _ _ _ _ _ _ => rfl, fun z => absurd z (by omega)⟩
      · rw [if_neg q]
        obtain ⟨a1, a2, a3, a4⟩ := rx_R (vh := vh) hR hnv hQ h1 (by omega) hs (by omega) l1 hx'
        exact ⟨a1, a2, a3, fun _ => a4⟩
    obtain ⟨r1, r2, r3, r4⟩ := R
    rw [hc] at r4
    generalize wdR m nv lo hi s n Y = Z at *
    have old : ∀ lo2 hi2 s2 n2, lo2 ≤ hi2 → hi2 < m → s2 < 2 → n2 ≤ 16 → hi2 - lo2 ≤ hi - lo → Z.2.1 47 (atN lo2 hi2 s2 n2) = X.2.1 47 (atN lo2 hi2 s2 n2) := fun lo2 hi2 s2 n2 a1 a2 a3 a4 a5 => (r3 lo2 hi2 s2 n2 a1 a2 a3 a4 a5).trans (l3 lo2 hi2 s2 n2 a1 a2 a3 a4 a5)
    refine ⟨r1, ?_⟩
    intro lo2 hi2 s2 n2 a1 a2 a3 a4 hpr
    rcases hp lo2 hi2 s2 n2 a1 a2 a3 a4 hpr with z | ⟨z1, z2, z3, z4⟩
    · intro hne
      rw [old lo2 hi2 s2 n2 a1 a2 a3 (by omega) (hw lo2 hi2 s2 n2 a1 z)] at hne ⊢
      obtain ⟨y1, y2⟩ := p6 lo2 hi2 s2 n2 a1 a2 a3 a4 z hne
      exact ⟨fun q => Int.le_trans (r2 _) (Int.le_trans (l2 _) (y1 q)), fun q => Int.le_trans (r2 _) (Int.le_trans (l2 _) (y2 q))⟩
    · subst z1
      subst z2
      subst z3
      subst z4
      intro hne
      rw [old lo2 hi2 s2 n2 a1 a2 a3 (by omega) (Nat.le_refl _)]
      exact ⟨fun q => Int.le_trans (r2 _) (l4 q), r4⟩
end WKP
