section TBL
/-- a cell takes the lesser value -/
def rel (e : Nat → Int32) (i : Nat) (t : Int32) : Nat → Int32 := upd e i (if t < e i then t else e i)
theorem rel_le (e : Nat → Int32) (i : Nat) (t : Int32) (j : Nat) : (rel e i t j).toInt ≤ (e j).toInt := by
  unfold rel
  by_cases h : j = i
  · subst h
    rw [upd_eq]
    split
    · rename_i q
      rw [Int32.lt_iff_toInt_lt] at q
      omega
    · exact Int.le_refl _
  · rw [upd_ne h]
    exact Int.le_refl _
theorem rel_at (e : Nat → Int32) (i : Nat) (t : Int32) : (rel e i t i).toInt ≤ t.toInt := by
  unfold rel
  rw [upd_eq]
  split
  · exact Int.le_refl _
  · rename_i q
    rw [Int32.lt_iff_toInt_lt] at q
    omega
theorem rel_ne {e : Nat → Int32} {i j : Nat} {t : Int32} (h : j ≠ i) : rel e i t j = e j := upd_ne h
theorem rel_or (e : Nat → Int32) (i : Nat) (t : Int32) (j : Nat) : rel e i t j = e j ∨ (j = i ∧ rel e i t j = t) := by
  by_cases h : j = i
  · subst h
    unfold rel
    rw [upd_eq]
    split
    · exact Or.inr ⟨rfl, rfl⟩
    · exact Or.inl rfl
  · exact Or.inl (rel_ne h)
theorem dm_inj {a b a' b' r : Nat} (hb : b ≤ r) (hb' : b' ≤ r) (h : a * (r + 1) + b = a' * (r + 1) + b') : a = a' ∧ b = b' := by
  have e1 : (a * (r + 1) + b) / (r + 1) = a := by
    rw [Nat.mul_comm, Nat.mul_add_div (by omega), Nat.div_eq_of_lt (by omega), Nat.add_zero]
  have e2 : (a' * (r + 1) + b') / (r + 1) = a' := by
    rw [Nat.mul_comm, Nat.mul_add_div (by omega), Nat.div_eq_of_lt (by omega), Nat.add_zero]
  have e3 : a = a' := by rw [← e1, ← e2, h]
  subst e3
  exact ⟨rfl, by omega⟩
theorem cell_inj {r a b s m a' b' s' m' : Nat} (hb : b ≤ r) (hb' : b' ≤ r) (hs : s < 2) (hs' : s' < 2) (hm : m ≤ 16) (hm' : m' ≤ 16) (h : cellN r a b s m = cellN r a' b' s' m') : a = a' ∧ b = b' ∧ s = s' ∧ m = m' := by
  unfold cellN at h
  generalize ha : a * (r + 1) + b = A at h
  generalize ha' : a' * (r + 1) + b' = A' at h
  have : A = A' ∧ s = s' ∧ m = m' := by omega
  obtain ⟨e, es, em⟩ := this
  rw [← ha, ← ha'] at e
  obtain ⟨x, y⟩ := dm_inj hb hb' e
  exact ⟨x, y, es, em⟩
theorem cell_s {r a b s m : Nat} : cellN r a b s m + 1 = cellN r a b s (m + 1) := rfl
/-- 1 if he is met -/
def met (h t : Int) : Nat := if h < t then 0 else 1
theorem met_mono {h t t' : Int} (q : t ≤ t') : met h t' ≤ met h t := by
  unfold met
  split <;> split <;> omega
theorem arrS_e (r a b s m : Nat) (t l : Int32) (S : St) : (arrS (cellN r a b s m) t l S).2.1 16 = rel (S.2.1 16) (cellN r a b s (m + met l.toInt t.toInt)) t := by
  show upd (S.2.1 16) (if l < t then cellN r a b s m else cellN r a b s m + 1) (if t < S.2.1 16 (if l < t then cellN r a b s m else cellN r a b s m + 1) then t else S.2.1 16 (if l < t then cellN r a b s m else cellN r a b s m + 1)) = _
  have e : (if l < t then cellN r a b s m else cellN r a b s m + 1) = cellN r a b s (m + met l.toInt t.toInt) := by
    unfold met
    by_cases q : l < t
    · rw [if_pos q]
      rw [Int32.lt_iff_toInt_lt] at q
      rw [if_pos q, Nat.add_zero]
    · rw [if_neg q]
      rw [Int32.lt_iff_toInt_lt] at q
      rw [if_neg q]
      rfl
  rw [e]
  rfl
theorem arrS_o (c : Nat) (t l : Int32) (S : St) (n : Nat) (h : n ≠ 16) : (arrS c t l S).2.1 n = S.2.1 n := up_ne h
theorem arrS_p (c : Nat) (t l : Int32) (S : St) : (arrS c t l S).2.1 14 = S.2.1 14 := arrS_o c t l S _ (by decide)
theorem arrS_h (c : Nat) (t l : Int32) (S : St) : (arrS c t l S).2.1 15 = S.2.1 15 := arrS_o c t l S _ (by decide)
theorem arrS_c (c : Nat) (t l : Int32) (S : St) : (arrS c t l S).2.1 17 = S.2.1 17 := arrS_o c t l S _ (by decide)
def goE (l r a b s : Nat) (here : Int32) (pl hr : Nat → Int32) (m : Nat) (e : Nat → Int32) : Nat → Int32 :=
  let now := e (cellN r a b s m)
  let e1 := if l ≤ a then e else rel e (cellN r (a + 1) b 0 (m + met (hr (l - a - 1)).toInt (now + here - pl (l - a - 1)).toInt)) (now + here - pl (l - a - 1))
  if r ≤ b then e1 else rel e1 (cellN r a (b + 1) 1 (m + met (hr (l + b)).toInt (now + pl (l + b) - here).toInt)) (now + pl (l + b) - here)
theorem goB_e {l r a b s m : Nat} {here : Int32} {X : St} (hx : ¬ X.2.1 16 (cellN r a b s m) = 1000000) : (goB l r a b s here m X).2.1 16 = goE l r a b s here (X.2.1 14) (X.2.1 15) m (X.2.1 16) ∧ (goB l r a b s here m X).2.1 17 = rel (X.2.1 17) m (X.2.1 16 (cellN r a b s m)) := by
  unfold goB goE
  rw [if_neg hx]
  dsimp only
  by_cases h1 : l ≤ a
  · rw [if_pos h1, if_pos h1]
    by_cases h2 : r ≤ b
    · rw [if_pos h2, if_pos h2]
      exact ⟨rfl, rfl⟩
    · rw [if_neg h2, if_neg h2, arrS_e, arrS_o _ _ _ _ _ (by decide)]
      exact ⟨rfl, rfl⟩
  · rw [if_neg h1, if_neg h1]
    by_cases h2 : r ≤ b
    · rw [if_pos h2, if_pos h2, arrS_e, arrS_o _ _ _ _ _ (by decide)]
      exact ⟨rfl, rfl⟩
    · rw [if_neg h2, if_neg h2, arrS_e, arrS_e]
      simp only [arrS_p, arrS_h, arrS_c]
      exact ⟨rfl, rfl⟩
end TBL
