section WKC
def posC (bg : Int32) (pl : Nat → Int32) (l a b s : Nat) : Int32 := if s = 0 then (if a = 0 then bg else pl (l - a)) else (if b = 0 then bg else pl (l + b - 1))
def RdC (l r : Nat) (bg : Int32) (pl : Nat → Int32) : Prop := l + r ≤ 16 ∧ rng 0 1000 bg ∧ (∀ k, k < l + r → rng 0 1000 (pl k)) ∧ (∀ k, k < l → (pl k).toInt < bg.toInt) ∧ (∀ k, l ≤ k → k < l + r → bg.toInt ≤ (pl k).toInt) ∧ (∀ k, k + 1 < l + r → (pl k).toInt ≤ (pl (k + 1)).toInt)
variable {l r : Nat} {bg : Int32} {pl hr : Nat → Int32}
theorem pos_rng {a b s : Nat} (h : RdC l r bg pl) (ha : a ≤ l) (hb : b ≤ r) : rng 0 1000 (posC bg pl l a b s) := by
  obtain ⟨h1, h2, h3, h4, h5, h6⟩ := h
  unfold posC
  split
  · split
    · exact h2
    · exact h3 _ (by omega)
  · split
    · exact h2
    · exact h3 _ (by omega)
theorem pos_L {a b s : Nat} (h : RdC l r bg pl) (ha : a < l) (hb : b ≤ r) : (pl (l - a - 1)).toInt ≤ (posC bg pl l a b s).toInt := by
  obtain ⟨h1, h2, h3, h4, h5, h6⟩ := h
  have q := h4 (l - a - 1) (by omega)
  unfold posC
  split
  · split
    · omega
    · have := h6 (l - a - 1) (by omega)
      rw [show l - a - 1 + 1 = l - a by omega] at this
      exact this
  · split
    · omega
    · have := h5 (l + b - 1) (by omega) (by omega)
      omega
theorem pos_R {a b s : Nat} (h : RdC l r bg pl) (ha : a ≤ l) (hb : b < r) : (posC bg pl l a b s).toInt ≤ (pl (l + b)).toInt := by
  obtain ⟨h1, h2, h3, h4, h5, h6⟩ := h
  have q := h5 (l + b) (by omega) (by omega)
  unfold posC
  split
  · split
    · omega
    · have := h4 (l - a) (by omega)
      omega
  · split
    · omega
    · have := h6 (l + b - 1) (by omega)
      rw [show l + b - 1 + 1 = l + b by omega] at this
      exact this
theorem t_add {x y z : Int32} (hx : 0 ≤ x.toInt ∧ x.toInt ≤ 100000) (hy : rng 0 1000 y) (hz : rng 0 1000 z) : (x + y - z).toInt = x.toInt + y.toInt - z.toInt := by
  obtain ⟨y1, y2⟩ := hy
  obtain ⟨z1, z2⟩ := hz
  have e1 : (x + y).toInt = x.toInt + y.toInt := by
    rw [Int32.toInt_add]
    exact Int.bmod_eq_of_le (by omega) (by omega)
  rw [Int32.toInt_sub, e1]
  exact Int.bmod_eq_of_le (by omega) (by omega)
def tLC (bg : Int32) (pl : Nat → Int32) (l a b s : Nat) (t : Int) : Int := t + (posC bg pl l a b s).toInt - (pl (l - a - 1)).toInt
def tRC (bg : Int32) (pl : Nat → Int32) (l a b s : Nat) (t : Int) : Int := t + (pl (l + b)).toInt - (posC bg pl l a b s).toInt
/-- Q goes along each step of the walk -/
def StC (l r : Nat) (bg : Int32) (pl hr : Nat → Int32) (Q : Nat → Nat → Nat → Nat → Int → Prop) : Prop := (∀ (a b s m : Nat) (t : Int), a < l → b ≤ r → s < 2 → m ≤ a + b → 0 ≤ t → t ≤ 1000 * (a + b : Nat) → Q a b s m t → Q (a + 1) b 0 (m + met (hr (l - a - 1)).toInt (tLC bg pl l a b s t)) (tLC bg pl l a b s t)) ∧ (∀ (a b s m : Nat) (t : Int), a ≤ l → b < r → s < 2 → m ≤ a + b → 0 ≤ t → t ≤ 1000 * (a + b : Nat) → Q a b s m t → Q a (b + 1) 1 (m + met (hr (l + b)).toInt (tRC bg pl l a b s t)) (tRC bg pl l a b s t))
def SndC (l r : Nat) (Q : Nat → Nat → Nat → Nat → Int → Prop) (e : Nat → Int32) : Prop := ∀ a b s m, a ≤ l → b ≤ r → s < 2 → m ≤ 16 → ¬ e (cellN r a b s m) = 1000000 → Q a b s m (e (cellN r a b s m)).toInt ∧ 0 ≤ (e (cellN r a b s m)).toInt ∧ (e (cellN r a b s m)).toInt ≤ 1000 * (a + b : Nat) ∧ m ≤ a + b
def SndH (l r : Nat) (Q : Nat → Nat → Nat → Nat → Int → Prop) (h : Nat → Int32) : Prop := ∀ m, m ≤ 16 → ¬ h m = 1000000 → ∃ a b s, a ≤ l ∧ b ≤ r ∧ s < 2 ∧ Q a b s m (h m).toInt ∧ 0 ≤ (h m).toInt ∧ (h m).toInt ≤ 1000 * (a + b : Nat) ∧ m ≤ a + b
def CloC (l r : Nat) (bg : Int32) (pl hr : Nat → Int32) (e h : Nat → Int32) (a b s m : Nat) : Prop := ¬ e (cellN r a b s m) = 1000000 → (h m).toInt ≤ (e (cellN r a b s m)).toInt ∧ (a < l → (e (cellN r (a + 1) b 0 (m + met (hr (l - a - 1)).toInt (tLC bg pl l a b s (e (cellN r a b s m)).toInt)))).toInt ≤ tLC bg pl l a b s (e (cellN r a b s m)).toInt) ∧ (b < r → (e (cellN r a (b + 1) 1 (m + met (hr (l + b)).toInt (tRC bg pl l a b s (e (cellN r a b s m)).toInt)))).toInt ≤ tRC bg pl l a b s (e (cellN r a b s m)).toInt)
def InvC (l r : Nat) (bg : Int32) (pl hr : Nat → Int32) (Q : Nat → Nat → Nat → Nat → Int → Prop) (I : Nat) (e h : Nat → Int32) : Prop := SndC l r Q e ∧ SndH l r Q h ∧ ∀ a b s m, a ≤ l → b ≤ r → s < 2 → m ≤ a + b → cellN r a b s m < I → CloC l r bg pl hr e h a b s m
theorem cell_L {a b s m k : Nat} (hs : s < 2) (hm : m ≤ 16) : cellN r a b s m < cellN r (a + 1) b 0 k := by
  unfold cellN
  rw [show (a + 1) * (r + 1) = a * (r + 1) + (r + 1) from Nat.succ_mul a (r + 1)]
  generalize a * (r + 1) = A
  omega
theorem cell_R {a b s m k : Nat} (hs : s < 2) (hm : m ≤ 16) : cellN r a b s m < cellN r a (b + 1) 1 k := by
  unfold cellN
  generalize a * (r + 1) = A
  omega
theorem met_le (h t : Int) : met h t ≤ 1 := by unfold met; split <;> omega
/-- one cell is worked off -/
theorem go_inv {Q : Nat → Nat → Nat → Nat → Int → Prop} {e h : Nat → Int32} {a b s m : Nat} (hR : RdC l r bg pl) (hQ : StC l r bg pl hr Q) (ha : a ≤ l) (hb : b ≤ r) (hs : s < 2) (hm : m ≤ a + b) (hv : InvC l r bg pl hr Q (cellN r a b s m) e h) (hx : ¬ e (cellN r a b s m) = 1000000) : InvC l r bg pl hr Q (cellN r a b s m + 1) (goE l r a b s (posC bg pl l a b s) pl hr m e) (rel h m (e (cellN r a b s m))) := by
  have h16 := hR.1
  obtain ⟨v1, v2, v3⟩ := hv
  obtain ⟨c1, c2, c3, c4⟩ := v1 a b s m ha hb hs (by omega) hx
  have hp := pos_rng (s := s) hR ha hb
  have tl : a < l → (e (cellN r a b s m) + posC bg pl l a b s - pl (l - a - 1)).toInt = tLC bg pl l a b s (e (cellN r a b s m)).toInt := fun q => t_add ⟨c2, by omega⟩ hp (hR.2.2.1 _ (by omega))
  have tr : b < r → (e (cellN r a b s m) + pl (l + b) - posC bg pl l a b s).toInt = tRC bg pl l a b s (e (cellN r a b s m)).toInt := fun q => t_add ⟨c2, by omega⟩ (hR.2.2.1 _ (by omega)) hp
  have key : ∀ j, (goE l r a b s (posC bg pl l a b s) pl hr m e j).toInt ≤ (e j).toInt ∧ (goE l r a b s (posC bg pl l a b s) pl hr m e j = e j ∨ (a < l ∧ j = cellN r (a + 1) b 0 (m + met (hr (l - a - 1)).toInt (tLC bg pl l a b s (e (cellN r a b s m)).toInt)) ∧ (goE l r a b s (posC bg pl l a b s) pl hr m e j).toInt = tLC bg pl l a b s (e (cellN r a b s m)).toInt) ∨ (b < r ∧ j = cellN r a (b + 1) 1 (m + met (hr (l + b)).toInt (tRC bg pl l a b s (e (cellN r a b s m)).toInt)) ∧ (goE l r a b s (posC bg pl l a b s) pl hr m e j).toInt = tRC bg pl l a b s (e (cellN r a b s m)).toInt)) ∧ (a < l → j = cellN r (a + 1) b 0 (m + met (hr (l - a - 1)).toInt (tLC bg pl l a b s (e (cellN r a b s m)).toInt)) → (goE l r a b s (posC bg pl l a b s) pl hr m e j).toInt ≤ tLC bg pl l a b s (e (cellN r a b s m)).toInt) ∧ (b < r → j = cellN r a (b + 1) 1 (m + met (hr (l + b)).toInt (tRC bg pl l a b s (e (cellN r a b s m)).toInt)) → (goE l r a b s (posC bg pl l a b s) pl hr m e j).toInt ≤ tRC bg pl l a b s (e (cellN r a b s m)).toInt) := by
    intro j
    unfold goE
    by_cases q1 : l ≤ a
    · rw [if_pos q1]
      by_cases q2 : r ≤ b
      · rw [if_pos q2]
        exact ⟨Int.le_refl _, Or.inl rfl, fun q => absurd q (by omega), fun q => absurd q (by omega)⟩
      · rw [if_neg q2, tr (by omega)]
        refine ⟨rel_le _ _ _ _, ?_, fun q => absurd q (by omega), fun _ ej => ?_⟩
        · rcases rel_or e (cellN r a (b + 1) 1 (m + met (hr (l + b)).toInt (tRC bg pl l a b s (e (cellN r a b s m)).toInt))) (e (cellN r a b s m) + pl (l + b) - posC bg pl l a b s) j with z | ⟨z, z2⟩
          · exact Or.inl z
          · exact Or.inr (Or.inr ⟨by omega, z, by rw [z2]; exact tr (by omega)⟩)
        · rw [ej]
          exact Int.le_trans (rel_at _ _ _) (Int.le_of_eq (tr (by omega)))
    · rw [if_neg q1, tl (by omega)]
      by_cases q2 : r ≤ b
      · rw [if_pos q2]
        refine ⟨rel_le _ _ _ _, ?_, fun _ ej => ?_, fun q => absurd q (by omega)⟩
        · rcases rel_or e (cellN r (a + 1) b 0 (m + met (hr (l - a - 1)).toInt (tLC bg pl l a b s (e (cellN r a b s m)).toInt))) (e (cellN r a b s m) + posC bg pl l a b s - pl (l - a - 1)) j with z | ⟨z, z2⟩
          · exact Or.inl z
          · exact Or.inr (Or.inl ⟨by omega, z, by rw [z2]; exact tl (by omega)⟩)
        · rw [ej]
          exact Int.le_trans (rel_at _ _ _) (Int.le_of_eq (tl (by omega)))
      · rw [if_neg q2, tr (by omega)]
        refine ⟨Int.le_trans (rel_le _ _ _ _) (rel_le _ _ _ _), ?_, fun _ ej => ?_, fun _ ej => ?_⟩
        · rcases rel_or (rel e (cellN r (a + 1) b 0 (m + met (hr (l - a - 1)).toInt (tLC bg pl l a b s (e (cellN r a b s m)).toInt))) (e (cellN r a b s m) + posC bg pl l a b s - pl (l - a - 1))) (cellN r a (b + 1) 1 (m + met (hr (l + b)).toInt (tRC bg pl l a b s (e (cellN r a b s m)).toInt))) (e (cellN r a b s m) + pl (l + b) - posC bg pl l a b s) j with z | ⟨z, z2⟩
          · rcases rel_or e (cellN r (a + 1) b 0 (m + met (hr (l - a - 1)).toInt (tLC bg pl l a b s (e (cellN r a b s m)).toInt))) (e (cellN r a b s m) + posC bg pl l a b s - pl (l - a - 1)) j with y | ⟨y, y2⟩
            · exact Or.inl (z.trans y)
            · exact Or.inr (Or.inl ⟨by omega, y, by rw [z, y2]; exact tl (by omega)⟩)
          · exact Or.inr (Or.inr ⟨by omega, z, by rw [z2]; exact tr (by omega)⟩)
        · rw [ej]
          exact Int.le_trans (rel_le _ _ _ _) (Int.le_trans (rel_at _ _ _) (Int.le_of_eq (tl (by omega))))
        · rw [ej]
          exact Int.le_trans (rel_at _ _ _) (Int.le_of_eq (tr (by omega)))
  generalize goE l r a b s (posC bg pl l a b s) pl hr m e = e' at key
  have old : ∀ j, j ≤ cellN r a b s m → e' j = e j := by
    intro j hj
    rcases (key j).2.1 with z | ⟨_, z, _⟩ | ⟨_, z, _⟩
    · exact z
    · have := cell_L (r := r) (a := a) (b := b) (s := s) (m := m) (k := m + met (hr (l - a - 1)).toInt (tLC bg pl l a b s (e (cellN r a b s m)).toInt)) hs (by omega)
      omega
    · have := cell_R (r := r) (a := a) (b := b) (s := s) (m := m) (k := m + met (hr (l + b)).toInt (tRC bg pl l a b s (e (cellN r a b s m)).toInt)) hs (by omega)
      omega
  refine ⟨?_, ?_, ?_⟩
  · intro a' b' s' m' ha' hb' hs' hm' hne
    rcases (key (cellN r a' b' s' m')).2.1 with z | ⟨q, z, z2⟩ | ⟨q, z, z2⟩
    · rw [z] at hne ⊢
      exact v1 a' b' s' m' ha' hb' hs' hm' hne
    · have hml := met_le (hr (l - a - 1)).toInt (tLC bg pl l a b s (e (cellN r a b s m)).toInt)
      obtain ⟨x1, x2, x3, x4⟩ := cell_inj hb' hb hs' (by omega) hm' (by omega) z
      rw [z2, x1, x2, x3, x4]
      have hq := hQ.1 a b s m _ q hb hs hm c2 c3 c1
      have g1 := pos_L (s := s) hR q hb
      have g2 := hR.2.2.1 (l - a - 1) (by omega)
      obtain ⟨g3, g4⟩ := g2
      obtain ⟨g5, g6⟩ := hp
      refine ⟨hq, ?_, ?_, by omega⟩
      · unfold tLC; omega
      · unfold tLC; omega
    · have hml := met_le (hr (l + b)).toInt (tRC bg pl l a b s (e (cellN r a b s m)).toInt)
      obtain ⟨x1, x2, x3, x4⟩ := cell_inj hb' (by omega) hs' (by omega) hm' (by omega) z
      rw [z2, x1, x2, x3, x4]
      have hq := hQ.2 a b s m _ ha q hs hm c2 c3 c1
      have g1 := pos_R (s := s) hR ha q
      have g2 := hR.2.2.1 (l + b) (by omega)
      obtain ⟨g3, g4⟩ := g2
      obtain ⟨g5, g6⟩ := hp
      refine ⟨hq, ?_, ?_, by omega⟩
      · unfold tRC; omega
      · unfold tRC; omega
  · intro m' hm' hne
    rcases rel_or h m (e (cellN r a b s m)) m' with z | ⟨z, z2⟩
    · rw [z] at hne ⊢
      exact v2 m' hm' hne
    · rw [z2, z]
      exact ⟨a, b, s, ha, hb, hs, c1, c2, c3, c4⟩
  · intro a' b' s' m' ha' hb' hs' hm' hlt hne
    rw [old _ (by omega)] at hne ⊢
    by_cases z : cellN r a' b' s' m' = cellN r a b s m
    · obtain ⟨x1, x2, x3, x4⟩ := cell_inj hb' hb hs' hs (by omega) (by omega) z
      subst x1
      subst x2
      subst x3
      subst x4
      exact ⟨rel_at _ _ _, fun q => (key _).2.2.1 q rfl, fun q => (key _).2.2.2 q rfl⟩
    · obtain ⟨y1, y2, y3⟩ := v3 a' b' s' m' ha' hb' hs' hm' (by omega) hne
      exact ⟨Int.le_trans (rel_le _ _ _ _) y1, fun q => Int.le_trans (key _).1 (y2 q), fun q => Int.le_trans (key _).1 (y3 q)⟩
end WKC
