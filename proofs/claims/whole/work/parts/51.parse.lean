section PRS
def Tok (by' : Nat → Int32) (len st : Nat) (C M : St) : Prop := st ≤ len ∧ len ≤ 200 ∧ C.2.1 10 = by' ∧ M.2.1 40 = by' ∧ C.1 6 = nI len ∧ M.1 29 = nI len ∧ C.1 8 = nI st ∧ M.1 30 = nI st ∧ C.1 7 = kindF by' len st ∧ M.1 32 = kindF by' len st ∧ C.1 9 = nI (bhF by' len st (kindF by' len st)) ∧ M.1 31 = nI (bhF by' len st (kindF by' len st)) ∧ M.2.2.1 3 = wtF by' len st (kindF by' len st)
theorem Tok.tk {by' : Nat → Int32} {len st : Nat} {C M : St} (h : Tok by' len st C M) : Tk C := by
  obtain ⟨h1, h2, h3, h4, h5, h6, h7, h8, h9, h10, h11, h12, h13⟩ := h
  have hr := ruF_le by' (kindF by' len st) (len - st) st
  refine ⟨len, st, _, h5, h2, h7, h11, ?_, bhF_le h1, ?_⟩
  · unfold bhF
    split
    · omega
    · split
      · omega
      · split <;> omega
  · intro hk
    rw [h9] at hk
    exact kindF_lt hk
theorem bh_ge {by' : Nat → Int32} {len st : Nat} {kd : Int32} : st ≤ bhF by' len st kd := by
  have hr := ruF_le by' kd (len - st) st
  unfold bhF
  split
  · omega
  · split
    · omega
    · split <;> omega
/-- both go on by a token -/
theorem Tok.next {by' : Nat → Int32} {len p : Nat} {C M : St} (h2 : len ≤ 200) (hp : p ≤ len) (h3 : C.2.1 10 = by') (h4 : M.2.1 40 = by') (h5 : C.1 6 = nI len) (h6 : M.1 29 = nI len) (h7 : C.1 9 = nI p) (h8 : M.1 31 = nI p) : Tok by' len (skF by' (len - p) p) (nextS C) (nextM M) := by
  have e1 : lenT C = len := by unfold lenT; rw [h5]; exact nI_clamp (by omega)
  have e2 : endR C = p := by unfold endR; rw [h7]; exact nI_clamp (by omega)
  have e3 : lenM M = len := by unfold lenM; rw [h6]; exact nI_clamp (by omega)
  have e4 : toM M = p := by unfold toM; rw [h8]; exact nI_clamp (by omega)
  have hsk := skF_le by' (len - p) p
  unfold nextS nextM
  rw [e1, e2, e3, e4]
  unfold nextP nextQ
  dsimp only
  rw [h3, h4]
  exact ⟨by omega, h2, h3, h4, h5, h6, rfl, rfl, rfl, rfl, rfl, rfl, rfl⟩
theorem Tok.nx {by' : Nat → Int32} {len st : Nat} {C M : St} (h : Tok by' len st C M) : Tok by' len (skF by' (len - bhF by' len st (kindF by' len st)) (bhF by' len st (kindF by' len st))) (nextS C) (nextM M) := by
  obtain ⟨h1, h2, h3, h4, h5, h6, h7, h8, h9, h10, h11, h12, h13⟩ := h
  exact Tok.next h2 (bhF_le h1) h3 h4 h5 h6 h11 h12
/-- letters -/
theorem kd1 {c : Int32} : kdB c = 1 ↔ (97 ≤ c.toInt ∧ c.toInt ≤ 122) := by
  have hd := dg_ne1 c
  have l1 : c < 97 ↔ c.toInt < 97 := Int32.lt_iff_toInt_lt
  have l2 : 122 < c ↔ 122 < c.toInt := Int32.lt_iff_toInt_lt
  by_cases h1 : c < 97
  · have e : kdB c = dgK c := by unfold kdB; rw [if_pos h1]
    rw [e]
    exact ⟨fun h => absurd h hd, fun h => by have := l1.mp h1; omega⟩
  · by_cases h2 : 122 < c
    · have e : kdB c = dgK c := by unfold kdB; rw [if_neg h1, if_pos h2]
      rw [e]
      exact ⟨fun h => absurd h hd, fun h => by have := l2.mp h2; omega⟩
    · have e : kdB c = 1 := by unfold kdB; rw [if_neg h1, if_neg h2]
      rw [e]
      rw [l1] at h1
      rw [l2] at h2
      exact ⟨fun _ => ⟨by omega, by omega⟩, fun _ => rfl⟩
theorem kd2 {c : Int32} (h : kdB c = 2) : 48 ≤ c.toInt ∧ c.toInt ≤ 57 := by
  have key : ∀ c : Int32, dgK c = 2 → 48 ≤ c.toInt ∧ c.toInt ≤ 57 := by
    intro c h
    have l1 : c < 48 ↔ c.toInt < 48 := Int32.lt_iff_toInt_lt
    have l2 : 57 < c ↔ 57 < c.toInt := Int32.lt_iff_toInt_lt
    by_cases h1 : c < 48
    · unfold dgK at h
      rw [if_pos h1] at h
      exact absurd h (by decide)
    · by_cases h2 : 57 < c
      · unfold dgK at h
        rw [if_neg h1, if_pos h2] at h
        exact absurd h (by decide)
      · rw [l1] at h1
        rw [l2] at h2
        exact ⟨by omega, by omega⟩
  unfold kdB at h
  split at h
  · exact key c h
  · split at h
    · exact key c h
    · exact absurd h (by decide)
theorem lstep {w : Int64} {c : Int32} (h0 : 0 ≤ w.toInt) (h1 : w.toInt < 2 ^ 40) (hc0 : 0 ≤ c.toInt) (hc : c.toInt ≤ 255) (m : Int64) (z : Int64) (hm : 0 ≤ m.toInt ∧ m.toInt ≤ 32) (hz : 0 ≤ z.toInt ∧ z.toInt ≤ 96) : (w * m + c.toInt64 - z).toInt = w.toInt * m.toInt + c.toInt - z.toInt := by
  have hp : w.toInt * m.toInt ≤ 2 ^ 40 * 32 := by
    have := Int.mul_le_mul (Int.le_of_lt h1) hm.2 hm.1 (by decide)
    exact this
  have hp0 : 0 ≤ w.toInt * m.toInt := Int.mul_nonneg h0 hm.1
  have e1 : (w * m).toInt = w.toInt * m.toInt := by
    rw [Int64.toInt_mul]
    exact Int.bmod_eq_of_le (by omega) (by omega)
  have e2 : (w * m + c.toInt64).toInt = w.toInt * m.toInt + c.toInt := by
    rw [Int64.toInt_add, e1, Int32.toInt_toInt64]
    exact Int.bmod_eq_of_le (by omega) (by omega)
  rw [Int64.toInt_sub, e2]
  exact Int.bmod_eq_of_le (by omega) (by omega)
theorem wo_neg (by' : Nat → Int32) (st : Nat) : ∀ (r k : Nat), 6 ≤ k - st → woF by' st r k (-1) = -1
  | 0, _, _ => rfl
  | r + 1, k, h => by
    rw [woF]
    split
    · exact wo_neg by' st r (k + 1) (by omega)
    · rfl
/-- a word's letters, and what it is worth -/
theorem wo_1 {by' : Nat → Int32} {st r k : Nat} {w : Int64} (hk : k - st < 6) (h0 : 0 ≤ w.toInt) (h1 : w.toInt < 2 ^ 30) (hl : kdB (by' k) = 1) : ∃ w' : Int64, woF by' st (r + 1) k w = woF by' st r (k + 1) w' ∧ w'.toInt = w.toInt * 32 + (by' k).toInt - 96 := by
  obtain ⟨a, b⟩ := kd1.mp hl
  refine ⟨w * 32 + (by' k).toInt64 - 96, ?_, ?_⟩
  · rw [woF, if_pos hl, if_neg (by omega)]
  · rw [lstep h0 (by omega) (by omega) (by omega) 32 96 (by decide) (by decide)]
    rw [show (32 : Int64).toInt = 32 by decide, show (96 : Int64).toInt = 96 by decide]
theorem wo_end {by' : Nat → Int32} {st r k : Nat} {w : Int64} (h : r = 0 ∨ ¬ kdB (by' k) = 1) : woF by' st r k w = w := by
  cases r with
  | zero => rfl
  | succ r =>
    rcases h with h | h
    · omega
    · rw [woF, if_neg h]
theorem ru_1 {by' : Nat → Int32} {kd : Int32} {r k : Nat} (hl : kdB (by' k) = kd) : ruF by' kd (r + 1) k = ruF by' kd r (k + 1) := by rw [ruF, if_pos hl]
theorem ru_end {by' : Nat → Int32} {kd : Int32} {r k : Nat} (h : r = 0 ∨ ¬ kdB (by' k) = kd) : ruF by' kd r k = k := by
  cases r with
  | zero => rfl
  | succ r =>
    rcases h with h | h
    · omega
    · rw [ruF, if_neg h]
end PRS
