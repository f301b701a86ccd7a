section NUM
def NR (v : Int32) (w : Int64) : Prop := (0 ≤ v.toInt ∧ v.toInt ≤ 10000 ∧ w.toInt = v.toInt) ∨ (v.toInt = 10001 ∧ 10000 < w.toInt ∧ w.toInt ≤ 100009)
theorem nr_step {v c : Int32} {w : Int64} (h : NR v w) (hc : 48 ≤ c.toInt ∧ c.toInt ≤ 57) : NR (if 10001 < v * 10 + c - 48 then 10001 else v * 10 + c - 48) (if w ≤ 10000 then w * 10 + c.toInt64 - 48 else w) := by
  have hv : 0 ≤ v.toInt ∧ v.toInt ≤ 10001 := by rcases h with h | h <;> omega
  have e0 : (v * 10).toInt = v.toInt * 10 := by
    rw [Int32.toInt_mul, show (10 : Int32).toInt = 10 by decide]
    exact Int.bmod_eq_of_le (by omega) (by omega)
  have e1 : (v * 10 + c).toInt = v.toInt * 10 + c.toInt := by
    rw [Int32.toInt_add, e0]
    exact Int.bmod_eq_of_le (by omega) (by omega)
  have e2 : (v * 10 + c - 48).toInt = v.toInt * 10 + c.toInt - 48 := by
    rw [Int32.toInt_sub, e1, show (48 : Int32).toInt = 48 by decide]
    exact Int.bmod_eq_of_le (by omega) (by omega)
  have l1 : 10001 < v * 10 + c - 48 ↔ 10001 < v.toInt * 10 + c.toInt - 48 := by
    rw [Int32.lt_iff_toInt_lt, e2, show (10001 : Int32).toInt = 10001 by decide]
  have l2 : w ≤ 10000 ↔ w.toInt ≤ 10000 := by
    rw [Int64.le_iff_toInt_le, show (10000 : Int64).toInt = 10000 by decide]
  have t1 : (10001 : Int32).toInt = 10001 := by decide
  rcases h with ⟨a, b, c'⟩ | ⟨a, b, c'⟩
  · rw [if_pos (l2.mpr (by omega))]
    have e3 := lstep (w := w) (c := c) (by omega) (by omega) (by omega) (by omega) 10 48 (by decide) (by decide)
    rw [show (10 : Int64).toInt = 10 by decide, show (48 : Int64).toInt = 48 by decide] at e3
    by_cases q : 10001 < v * 10 + c - 48
    · rw [if_pos q]
      rw [l1] at q
      exact Or.inr ⟨t1, by omega, by omega⟩
    · rw [if_neg q]
      rw [l1] at q
      by_cases q2 : v.toInt * 10 + c.toInt - 48 ≤ 10000
      · exact Or.inl ⟨by omega, by omega, by omega⟩
      · exact Or.inr ⟨by omega, by omega, by omega⟩
  · have n2 : ¬ w ≤ 10000 := fun q => by have := l2.mp q; omega
    rw [if_pos (l1.mpr (by omega)), if_neg n2]
    exact Or.inr ⟨t1, b, c'⟩
theorem nu_di {by' : Nat → Int32} : ∀ (r k : Nat) (v : Int32) (w : Int64), NR v w → NR (nuF by' (ruF by' 2 r k - k) k v) (diF by' r k w) := by
  intro r
  induction r with
  | zero =>
    intro k v w h
    have e : ruF by' 2 0 k - k = 0 := Nat.sub_self k
    rw [e]
    exact h
  | succ r ih =>
    intro k v w h
    by_cases hc : kdB (by' k) = 2
    · have hr := ruF_le by' 2 r (k + 1)
      rw [ru_1 hc, diF, if_pos hc]
      have e : ruF by' 2 r (k + 1) - k = (ruF by' 2 r (k + 1) - (k + 1)) + 1 := by omega
      rw [e, nuF]
      exact ih (k + 1) _ _ (nr_step h (kd2 hc))
    · rw [ru_end (Or.inr hc), diF, if_neg hc, Nat.sub_self]
      exact h
theorem num_t {by' : Nat → Int32} {len st : Nat} {C M : St} (h : Tok by' len st C M) {lo hi : Int32} {lo' hi' : Int64} (e1 : lo'.toInt = lo.toInt) (e2 : hi'.toInt = hi.toInt) (h0 : 0 ≤ lo.toInt) (h1 : hi.toInt ≤ 10000) : (decide (M.1 32 = 2) && inL (M.2.2.1 3) lo' hi') = !outB (numR C) lo hi ∧ (outB (numR C) lo hi = false → (M.2.2.1 3).toInt32 = numR C) := by
  obtain ⟨k1, k2, k3, k4, k5, k6, k7, k8, k9, k10, k11, k12, k13⟩ := h
  have hb := bhF_le (by' := by') k1
  have ea : begR C = st := by unfold begR; rw [k7]; exact nI_clamp (by omega)
  have eb : endR C = bhF by' len st (kindF by' len st) := by unfold endR; rw [k11]; exact nI_clamp (by omega)
  unfold numR
  rw [ea, eb, k9, k10, k13, k3]
  by_cases hk : kindF by' len st = 2
  · rw [hk]
    have e3 : bhF by' len st 2 = ruF by' 2 (len - st) st := rfl
    have e4 : wtF by' len st 2 = diF by' (len - st) st 0 := rfl
    rw [e3, e4, if_pos rfl]
    have hn := nu_di (by' := by') (len - st) st 0 0 (Or.inl ⟨by decide, by decide, by decide⟩)
    generalize nuF by' (ruF by' 2 (len - st) st - st) st 0 = v at hn
    generalize diF by' (len - st) st 0 = w at hn
    unfold inL outB
    have a1 : v < lo ↔ v.toInt < lo.toInt := Int32.lt_iff_toInt_lt
    have a2 : v ≤ hi ↔ v.toInt ≤ hi.toInt := Int32.le_iff_toInt_le
    have a3 : w < lo' ↔ w.toInt < lo.toInt := by rw [Int64.lt_iff_toInt_lt, e1]
    have a4 : hi' < w ↔ hi.toInt < w.toInt := by rw [Int64.lt_iff_toInt_lt, e2]
    constructor
    · rw [Bool.eq_iff_iff]
      simp only [Bool.and_eq_true, decide_eq_true_eq, true_and, Bool.not_eq_true', Bool.or_eq_false_iff, decide_eq_false_iff_not, Bool.not_eq_false']
      rw [a1, a2, a3, a4]
      rcases hn with hn | hn <;> omega
    · intro q
      simp only [Bool.or_eq_false_iff, decide_eq_false_iff_not, Bool.not_eq_false', decide_eq_true_eq] at q
      rw [a1, a2] at q
      rw [← Int32.toInt_inj, Int64.toInt_toInt32]
      rcases hn with hn | hn
      · rw [hn.2.2]
        exact Int.bmod_eq_of_le (by omega) (by omega)
      · omega
  · rw [if_neg hk, decide_eq_false hk]
    have e5 : outB (-1) lo hi = true := by
      unfold outB
      rw [decide_eq_true (p := (-1 : Int32) < lo)]
      · rfl
      · rw [Int32.lt_iff_toInt_lt, show (-1 : Int32).toInt = -1 by decide]
        omega
    rw [e5]
    exact ⟨rfl, fun q => absurd q (by decide)⟩
end NUM
