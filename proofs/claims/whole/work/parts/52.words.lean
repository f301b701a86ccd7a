section WRD
def wsum (by' : Nat → Int32) (st : Nat) : Nat → Int
  | 0 => 0
  | L + 1 => wsum by' st L * 32 + (by' (st + L)).toInt - 96
theorem wsum_rng (by' : Nat → Int32) (st : Nat) : ∀ L, (∀ j, j < L → 97 ≤ (by' (st + j)).toInt ∧ (by' (st + j)).toInt ≤ 122) → 0 ≤ wsum by' st L ∧ wsum by' st L < 32 ^ L
  | 0, _ => ⟨Int.le_refl _, show (0 : Int) < 1 by decide⟩
  | L + 1, h => by
    obtain ⟨a, b⟩ := wsum_rng by' st L (fun j hj => h j (by omega))
    have hl := h L (by omega)
    unfold wsum
    rw [Int.pow_succ]
    omega
theorem p32 : ∀ m, m < 6 → (32 : Int) ^ m ≤ 32 ^ 5 := by decide
theorem wo_char {by' : Nat → Int32} {st : Nat} : ∀ (r k : Nat) (w : Int64), st ≤ k → k - st ≤ 6 → w.toInt = wsum by' st (k - st) → (∀ j, j < k - st → 97 ≤ (by' (st + j)).toInt ∧ (by' (st + j)).toInt ≤ 122) → (ruF by' 1 r k - st ≤ 6 → (woF by' st r k w).toInt = wsum by' st (ruF by' 1 r k - st) ∧ ∀ j, j < ruF by' 1 r k - st → 97 ≤ (by' (st + j)).toInt ∧ (by' (st + j)).toInt ≤ 122) ∧ (6 < ruF by' 1 r k - st → woF by' st r k w = -1) := by
  intro r
  induction r with
  | zero =>
    intro k w hs hk hw hl
    refine ⟨fun _ => ⟨hw, hl⟩, fun h => ?_⟩
    have : ruF by' 1 0 k = k := rfl
    omega
  | succ r ih =>
    intro k w hs hk hw hl
    by_cases hc : kdB (by' k) = 1
    · rw [ru_1 hc]
      have hlt := kd1.mp hc
      by_cases h6 : k - st < 6
      · obtain ⟨b0, b1⟩ := wsum_rng by' st (k - st) hl
        have hb : (32 : Int) ^ (k - st) ≤ 32 ^ 5 := p32 _ h6
        obtain ⟨w', e1, e2⟩ := wo_1 (by' := by') (st := st) (r := r) (k := k) (w := w) h6 (by omega) (by omega) hc
        rw [e1]
        have ek : k + 1 - st = (k - st) + 1 := by omega
        have es : st + (k - st) = k := by omega
        refine ih (k + 1) w' (by omega) (by omega) ?_ ?_
        · rw [ek, wsum, es, e2, hw]
        · intro j hj
          rcases Nat.lt_or_ge j (k - st) with h | h
          · exact hl j h
          · have : st + j = k := by omega
            rw [this]
            exact hlt
      · have h7 := ruF_le by' 1 r (k + 1)
        refine ⟨fun h => by omega, fun _ => ?_⟩
        rw [woF, if_pos hc, if_pos (by omega)]
        exact wo_neg by' st r (k + 1) (by omega)
    · rw [ru_end (Or.inr hc), wo_end (Or.inr hc)]
      exact ⟨fun _ => ⟨hw, hl⟩, fun h => by omega⟩
theorem i32c {x y : Int32} {z : Int} (h : y.toInt = z) : x = y ↔ x.toInt = z := by rw [← Int32.toInt_inj, h]
theorem i64c {x y : Int64} {z : Int} (h : y.toInt = z) : x = y ↔ x.toInt = z := by rw [← Int64.toInt_inj, h]
theorem isW_0 {by' : Nat → Int32} {len st : Nat} {C M : St} (h : Tok by' len st C M) : isWd C 0 = isWM M 112 114 105 99 101 := by
  have htk := h.tk
  obtain ⟨h1, h2, h3, h4, h5, h6, h7, h8, h9, h10, h11, h12, h13⟩ := h
  have hb := bhF_le (by' := by') h1
  have e1 : begR C = st := by unfold begR; rw [h7]; exact nI_clamp (by omega)
  have e2 : endR C = bhF by' len st (kindF by' len st) := by unfold endR; rw [h11]; exact nI_clamp (by omega)
  unfold isWd isWM
  rw [e1, e2, h9, h10, h13, h3]
  by_cases hk : kindF by' len st = 1
  · rw [hk]
    have eb : bhF by' len st 1 = ruF by' 1 (len - st) st := rfl
    have ew : wtF by' len st 1 = woF by' st (len - st) st 0 := rfl
    rw [eb, ew]
    obtain ⟨p, q⟩ := wo_char (by' := by') (st := st) (len - st) st 0 (Nat.le_refl _) (by omega) (by rw [Nat.sub_self]; rfl) (fun j hj => by omega)
    generalize ruF by' 1 (len - st) st - st = L at p q
    generalize woF by' st (len - st) st 0 = w at p q
    rw [Bool.eq_iff_iff]
    simp only [Bool.and_eq_true, decide_eq_true_eq, true_and]
    rw [i64c (y := wv 112 114 105 99 101) (z := 17376357) (by decide)]
    have ed : wdF by' st 0 (lenJS.getD 0 0) 0 = true ↔ ((by' (st + 0)).toInt = 112 ∧ (by' (st + 1)).toInt = 114 ∧ (by' (st + 2)).toInt = 105 ∧ (by' (st + 3)).toInt = 99 ∧ (by' (st + 4)).toInt = 101) := by
      show wdF by' st 0 5 0 = true ↔ _
      simp only [wdF]
      simp only [Nat.zero_add, Nat.reduceAdd]
      rw [← i32c (x := by' (st + 0)) (y := chJ 0 0) (z := 112) (by decide)]
      rw [← i32c (x := by' (st + 1)) (y := chJ 0 1) (z := 114) (by decide)]
      rw [← i32c (x := by' (st + 2)) (y := chJ 0 2) (z := 105) (by decide)]
      rw [← i32c (x := by' (st + 3)) (y := chJ 0 3) (z := 99) (by decide)]
      rw [← i32c (x := by' (st + 4)) (y := chJ 0 4) (z := 101) (by decide)]
      simp
    rw [ed]
    show L = 5 ∧ _ ↔ _
    by_cases h6 : L ≤ 6
    · obtain ⟨p1, p2⟩ := p h6
      rw [p1]
      match L, h6, p2 with
      | 0, _, p2 => simp only [wsum]; omega
      | 1, _, p2 =>
        have a0 := p2 0 (by omega)
        simp only [wsum, Nat.add_zero, true_and] at *; omega
      | 2, _, p2 =>
        have a0 := p2 0 (by omega)
        have a1 := p2 1 (by omega)
        simp only [wsum, Nat.add_zero, true_and] at *; omega
      | 3, _, p2 =>
        have a0 := p2 0 (by omega)
        have a1 := p2 1 (by omega)
        have a2 := p2 2 (by omega)
        simp only [wsum, Nat.add_zero, true_and] at *; omega
      | 4, _, p2 =>
        have a0 := p2 0 (by omega)
        have a1 := p2 1 (by omega)
        have a2 := p2 2 (by omega)
        have a3 := p2 3 (by omega)
        simp only [wsum, Nat.add_zero, true_and] at *; omega
      | 5, _, p2 =>
        have a0 := p2 0 (by omega)
        have a1 := p2 1 (by omega)
        have a2 := p2 2 (by omega)
        have a3 := p2 3 (by omega)
        have a4 := p2 4 (by omega)
        simp only [wsum, Nat.add_zero, true_and] at *; omega
      | 6, _, p2 =>
        have a0 := p2 0 (by omega)
        have a1 := p2 1 (by omega)
        have a2 := p2 2 (by omega)
        have a3 := p2 3 (by omega)
        have a4 := p2 4 (by omega)
        have a5 := p2 5 (by omega)
        simp only [wsum, Nat.add_zero, true_and] at *; omega
      | n + 7, h, _ => omega
    · rw [q (by omega)]
      have : (-1 : Int64).toInt = -1 := by decide
      omega
  · rw [decide_eq_false hk]
    rfl
theorem isW_1 {by' : Nat → Int32} {len st : Nat} {C M : St} (h : Tok by' len st C M) : isWd C 1 = isWM M 113 117 111 116 97 := by
  have htk := h.tk
  obtain ⟨h1, h2, h3, h4, h5, h6, h7, h8, h9, h10, h11, h12, h13⟩ := h
  have hb := bhF_le (by' := by') h1
  have e1 : begR C = st := by unfold begR; rw [h7]; exact nI_clamp (by omega)
  have e2 : endR C = bhF by' len st (kindF by' len st) := by unfold endR; rw [h11]; exact nI_clamp (by omega)
  unfold isWd isWM
  rw [e1, e2, h9, h10, h13, h3]
  by_cases hk : kindF by' len st = 1
  · rw [hk]
    have eb : bhF by' len st 1 = ruF by' 1 (len - st) st := rfl
    have ew : wtF by' len st 1 = woF by' st (len - st) st 0 := rfl
    rw [eb, ew]
    obtain ⟨p, q⟩ := wo_char (by' := by') (st := st) (len - st) st 0 (Nat.le_refl _) (by omega) (by rw [Nat.sub_self]; rfl) (fun j hj => by omega)
    generalize ruF by' 1 (len - st) st - st = L at p q
    generalize woF by' st (len - st) st 0 = w at p q
    rw [Bool.eq_iff_iff]
    simp only [Bool.and_eq_true, decide_eq_true_eq, true_and]
    rw [i64c (y := wv 113 117 111 116 97) (z := 18529921) (by decide)]
    have ed : wdF by' st 1 (lenJS.getD 1 0) 0 = true ↔ ((by' (st + 0)).toInt = 113 ∧ (by' (st + 1)).toInt = 117 ∧ (by' (st + 2)).toInt = 111 ∧ (by' (st + 3)).toInt = 116 ∧ (by' (st + 4)).toInt = 97) := by
      show wdF by' st 1 5 0 = true ↔ _
      simp only [wdF]
      simp only [Nat.zero_add, Nat.reduceAdd]
      rw [← i32c (x := by' (st + 0)) (y := chJ 1 0) (z := 113) (by decide)]
      rw [← i32c (x := by' (st + 1)) (y := chJ 1 1) (z := 117) (by decide)]
      rw [← i32c (x := by' (st + 2)) (y := chJ 1 2) (z := 111) (by decide)]
      rw [← i32c (x := by' (st + 3)) (y := chJ 1 3) (z := 116) (by decide)]
      rw [← i32c (x := by' (st + 4)) (y := chJ 1 4) (z := 97) (by decide)]
      simp
    rw [ed]
    show L = 5 ∧ _ ↔ _
    by_cases h6 : L ≤ 6
    · obtain ⟨p1, p2⟩ := p h6
      rw [p1]
      match L, h6, p2 with
      | 0, _, p2 => simp only [wsum]; omega
      | 1, _, p2 =>
        have a0 := p2 0 (by omega)
        simp only [wsum, Nat.add_zero, true_and] at *; omega
      | 2, _, p2 =>
        have a0 := p2 0 (by omega)
        have a1 := p2 1 (by omega)
        simp only [wsum, Nat.add_zero, true_and] at *; omega
      | 3, _, p2 =>
        have a0 := p2 0 (by omega)
        have a1 := p2 1 (by omega)
        have a2 := p2 2 (by omega)
        simp only [wsum, Nat.add_zero, true_and] at *; omega
      | 4, _, p2 =>
        have a0 := p2 0 (by omega)
        have a1 := p2 1 (by omega)
        have a2 := p2 2 (by omega)
        have a3 := p2 3 (by omega)
        simp only [wsum, Nat.add_zero, true_and] at *; omega
      | 5, _, p2 =>
        have a0 := p2 0 (by omega)
        have a1 := p2 1 (by omega)
        have a2 := p2 2 (by omega)
        have a3 := p2 3 (by omega)
        have a4 := p2 4 (by omega)
        simp only [wsum, Nat.add_zero, true_and] at *; omega
      | 6, _, p2 =>
        have a0 := p2 0 (by omega)
        have a1 := p2 1 (by omega)
        have a2 := p2 2 (by omega)
        have a3 := p2 3 (by omega)
        have a4 := p2 4 (by omega)
        have a5 := p2 5 (by omega)
        simp only [wsum, Nat.add_zero, true_and] at *; omega
      | n + 7, h, _ => omega
    · rw [q (by omega)]
      have : (-1 : Int64).toInt = -1 := by decide
      omega
  · rw [decide_eq_false hk]
    rfl
theorem isW_2 {by' : Nat → Int32} {len st : Nat} {C M : St} (h : Tok by' len st C M) : isWd C 2 = isWM M 111 118 101 114 0 := by
  have htk := h.tk
  obtain ⟨h1, h2, h3, h4, h5, h6, h7, h8, h9, h10, h11, h12, h13⟩ := h
  have hb := bhF_le (by' := by') h1
  have e1 : begR C = st := by unfold begR; rw [h7]; exact nI_clamp (by omega)
  have e2 : endR C = bhF by' len st (kindF by' len st) := by unfold endR; rw [h11]; exact nI_clamp (by omega)
  unfold isWd isWM
  rw [e1, e2, h9, h10, h13, h3]
  by_cases hk : kindF by' len st = 1
  · rw [hk]
    have eb : bhF by' len st 1 = ruF by' 1 (len - st) st := rfl
    have ew : wtF by' len st 1 = woF by' st (len - st) st 0 := rfl
    rw [eb, ew]
    obtain ⟨p, q⟩ := wo_char (by' := by') (st := st) (len - st) st 0 (Nat.le_refl _) (by omega) (by rw [Nat.sub_self]; rfl) (fun j hj => by omega)
    generalize ruF by' 1 (len - st) st - st = L at p q
    generalize woF by' st (len - st) st 0 = w at p q
    rw [Bool.eq_iff_iff]
    simp only [Bool.and_eq_true, decide_eq_true_eq, true_and]
    rw [i64c (y := wv 111 118 101 114 0) (z := 514226) (by decide)]
    have ed : wdF by' st 2 (lenJS.getD 2 0) 0 = true ↔ ((by' (st + 0)).toInt = 111 ∧ (by' (st + 1)).toInt = 118 ∧ (by' (st + 2)).toInt = 101 ∧ (by' (st + 3)).toInt = 114) := by
      show wdF by' st 2 4 0 = true ↔ _
      simp only [wdF]
      simp only [Nat.zero_add, Nat.reduceAdd]
      rw [← i32c (x := by' (st + 0)) (y := chJ 2 0) (z := 111) (by decide)]
      rw [← i32c (x := by' (st + 1)) (y := chJ 2 1) (z := 118) (by decide)]
      rw [← i32c (x := by' (st + 2)) (y := chJ 2 2) (z := 101) (by decide)]
      rw [← i32c (x := by' (st + 3)) (y := chJ 2 3) (z := 114) (by decide)]
      simp
    rw [ed]
    show L = 4 ∧ _ ↔ _
    by_cases h6 : L ≤ 6
    · obtain ⟨p1, p2⟩ := p h6
      rw [p1]
      match L, h6, p2 with
      | 0, _, p2 => simp only [wsum]; omega
      | 1, _, p2 =>
        have a0 := p2 0 (by omega)
        simp only [wsum, Nat.add_zero, true_and] at *; omega
      | 2, _, p2 =>
        have a0 := p2 0 (by omega)
        have a1 := p2 1 (by omega)
        simp only [wsum, Nat.add_zero, true_and] at *; omega
      | 3, _, p2 =>
        have a0 := p2 0 (by omega)
        have a1 := p2 1 (by omega)
        have a2 := p2 2 (by omega)
        simp only [wsum, Nat.add_zero, true_and] at *; omega
      | 4, _, p2 =>
        have a0 := p2 0 (by omega)
        have a1 := p2 1 (by omega)
        have a2 := p2 2 (by omega)
        have a3 := p2 3 (by omega)
        simp only [wsum, Nat.add_zero, true_and] at *; omega
      | 5, _, p2 =>
        have a0 := p2 0 (by omega)
        have a1 := p2 1 (by omega)
        have a2 := p2 2 (by omega)
        have a3 := p2 3 (by omega)
        have a4 := p2 4 (by omega)
        simp only [wsum, Nat.add_zero, true_and] at *; omega
      | 6, _, p2 =>
        have a0 := p2 0 (by omega)
        have a1 := p2 1 (by omega)
        have a2 := p2 2 (by omega)
        have a3 := p2 3 (by omega)
        have a4 := p2 4 (by omega)
        have a5 := p2 5 (by omega)
        simp only [wsum, Nat.add_zero, true_and] at *; omega
      | n + 7, h, _ => omega
    · rw [q (by omega)]
      have : (-1 : Int64).toInt = -1 := by decide
      omega
  · rw [decide_eq_false hk]
    rfl
theorem isW_3 {by' : Nat → Int32} {len st : Nat} {C M : St} (h : Tok by' len st C M) : isWd C 3 = isWM M 100 101 98 116 0 := by
  have htk := h.tk
  obtain ⟨h1, h2, h3, h4, h5, h6, h7, h8, h9, h10, h11, h12, h13⟩ := h
  have hb := bhF_le (by' := by') h1
  have e1 : begR C = st := by unfold begR; rw [h7]; exact nI_clamp (by omega)
  have e2 : endR C = bhF by' len st (kindF by' len st) := by unfold endR; rw [h11]; exact nI_clamp (by omega)
  unfold isWd isWM
  rw [e1, e2, h9, h10, h13, h3]
  by_cases hk : kindF by' len st = 1
  · rw [hk]
    have eb : bhF by' len st 1 = ruF by' 1 (len - st) st := rfl
    have ew : wtF by' len st 1 = woF by' st (len - st) st 0 := rfl
    rw [eb, ew]
    obtain ⟨p, q⟩ := wo_char (by' := by') (st := st) (len - st) st 0 (Nat.le_refl _) (by omega) (by rw [Nat.sub_self]; rfl) (fun j hj => by omega)
    generalize ruF by' 1 (len - st) st - st = L at p q
    generalize woF by' st (len - st) st 0 = w at p q
    rw [Bool.eq_iff_iff]
    simp only [Bool.and_eq_true, decide_eq_true_eq, true_and]
    rw [i64c (y := wv 100 101 98 116 0) (z := 136276) (by decide)]
    have ed : wdF by' st 3 (lenJS.getD 3 0) 0 = true ↔ ((by' (st + 0)).toInt = 100 ∧ (by' (st + 1)).toInt = 101 ∧ (by' (st + 2)).toInt = 98 ∧ (by' (st + 3)).toInt = 116) := by
      show wdF by' st 3 4 0 = true ↔ _
      simp only [wdF]
      simp only [Nat.zero_add, Nat.reduceAdd]
      rw [← i32c (x := by' (st + 0)) (y := chJ 3 0) (z := 100) (by decide)]
      rw [← i32c (x := by' (st + 1)) (y := chJ 3 1) (z := 101) (by decide)]
      rw [← i32c (x := by' (st + 2)) (y := chJ 3 2) (z := 98) (by decide)]
      rw [← i32c (x := by' (st + 3)) (y := chJ 3 3) (z := 116) (by decide)]
      simp
    rw [ed]
    show L = 4 ∧ _ ↔ _
    by_cases h6 : L ≤ 6
    · obtain ⟨p1, p2⟩ := p h6
      rw [p1]
      match L, h6, p2 with
      | 0, _, p2 => simp only [wsum]; omega
      | 1, _, p2 =>
        have a0 := p2 0 (by omega)
        simp only [wsum, Nat.add_zero, true_and] at *; omega
      | 2, _, p2 =>
        have a0 := p2 0 (by omega)
        have a1 := p2 1 (by omega)
        simp only [wsum, Nat.add_zero, true_and] at *; omega
      | 3, _, p2 =>
        have a0 := p2 0 (by omega)
        have a1 := p2 1 (by omega)
        have a2 := p2 2 (by omega)
        simp only [wsum, Nat.add_zero, true_and] at *; omega
      | 4, _, p2 =>
        have a0 := p2 0 (by omega)
        have a1 := p2 1 (by omega)
        have a2 := p2 2 (by omega)
        have a3 := p2 3 (by omega)
        simp only [wsum, Nat.add_zero, true_and] at *; omega
      | 5, _, p2 =>
        have a0 := p2 0 (by omega)
        have a1 := p2 1 (by omega)
        have a2 := p2 2 (by omega)
        have a3 := p2 3 (by omega)
        have a4 := p2 4 (by omega)
        simp only [wsum, Nat.add_zero, true_and] at *; omega
      | 6, _, p2 =>
        have a0 := p2 0 (by omega)
        have a1 := p2 1 (by omega)
        have a2 := p2 2 (by omega)
        have a3 := p2 3 (by omega)
        have a4 := p2 4 (by omega)
        have a5 := p2 5 (by omega)
        simp only [wsum, Nat.add_zero, true_and] at *; omega
      | n + 7, h, _ => omega
    · rw [q (by omega)]
      have : (-1 : Int64).toInt = -1 := by decide
      omega
  · rw [decide_eq_false hk]
    rfl
theorem isW_4 {by' : Nat → Int32} {len st : Nat} {C M : St} (h : Tok by' len st C M) : isWd C 4 = isWM M 115 116 97 110 100 := by
  have htk := h.tk
  obtain ⟨h1, h2, h3, h4, h5, h6, h7, h8, h9, h10, h11, h12, h13⟩ := h
  have hb := bhF_le (by' := by') h1
  have e1 : begR C = st := by unfold begR; rw [h7]; exact nI_clamp (by omega)
  have e2 : endR C = bhF by' len st (kindF by' len st) := by unfold endR; rw [h11]; exact nI_clamp (by omega)
  unfold isWd isWM
  rw [e1, e2, h9, h10, h13, h3]
  by_cases hk : kindF by' len st = 1
  · rw [hk]
    have eb : bhF by' len st 1 = ruF by' 1 (len - st) st := rfl
    have ew : wtF by' len st 1 = woF by' st (len - st) st 0 := rfl
    rw [eb, ew]
    obtain ⟨p, q⟩ := wo_char (by' := by') (st := st) (len - st) st 0 (Nat.le_refl _) (by omega) (by rw [Nat.sub_self]; rfl) (fun j hj => by omega)
    generalize ruF by' 1 (len - st) st - st = L at p q
    generalize woF by' st (len - st) st 0 = w at p q
    rw [Bool.eq_iff_iff]
    simp only [Bool.and_eq_true, decide_eq_true_eq, true_and]
    rw [i64c (y := wv 115 116 97 110 100) (z := 20579780) (by decide)]
    have ed : wdF by' st 4 (lenJS.getD 4 0) 0 = true ↔ ((by' (st + 0)).toInt = 115 ∧ (by' (st + 1)).toInt = 116 ∧ (by' (st + 2)).toInt = 97 ∧ (by' (st + 3)).toInt = 110 ∧ (by' (st + 4)).toInt = 100) := by
      show wdF by' st 4 5 0 = true ↔ _
      simp only [wdF]
      simp only [Nat.zero_add, Nat.reduceAdd]
      rw [← i32c (x := by' (st + 0)) (y := chJ 4 0) (z := 115) (by decide)]
      rw [← i32c (x := by' (st + 1)) (y := chJ 4 1) (z := 116) (by decide)]
      rw [← i32c (x := by' (st + 2)) (y := chJ 4 2) (z := 97) (by decide)]
      rw [← i32c (x := by' (st + 3)) (y := chJ 4 3) (z := 110) (by decide)]
      rw [← i32c (x := by' (st + 4)) (y := chJ 4 4) (z := 100) (by decide)]
      simp
    rw [ed]
    show L = 5 ∧ _ ↔ _
    by_cases h6 : L ≤ 6
    · obtain ⟨p1, p2⟩ := p h6
      rw [p1]
      match L, h6, p2 with
      | 0, _, p2 => simp only [wsum]; omega
      | 1, _, p2 =>
        have a0 := p2 0 (by omega)
        simp only [wsum, Nat.add_zero, true_and] at *; omega
      | 2, _, p2 =>
        have a0 := p2 0 (by omega)
        have a1 := p2 1 (by omega)
        simp only [wsum, Nat.add_zero, true_and] at *; omega
      | 3, _, p2 =>
        have a0 := p2 0 (by omega)
        have a1 := p2 1 (by omega)
        have a2 := p2 2 (by omega)
        simp only [wsum, Nat.add_zero, true_and] at *; omega
      | 4, _, p2 =>
        have a0 := p2 0 (by omega)
        have a1 := p2 1 (by omega)
        have a2 := p2 2 (by omega)
        have a3 := p2 3 (by omega)
        simp only [wsum, Nat.add_zero, true_and] at *; omega
      | 5, _, p2 =>
        have a0 := p2 0 (by omega)
        have a1 := p2 1 (by omega)
        have a2 := p2 2 (by omega)
        have a3 := p2 3 (by omega)
        have a4 := p2 4 (by omega)
        simp only [wsum, Nat.add_zero, true_and] at *; omega
      | 6, _, p2 =>
        have a0 := p2 0 (by omega)
        have a1 := p2 1 (by omega)
        have a2 := p2 2 (by omega)
        have a3 := p2 3 (by omega)
        have a4 := p2 4 (by omega)
        have a5 := p2 5 (by omega)
        simp only [wsum, Nat.add_zero, true_and] at *; omega
      | n + 7, h, _ => omega
    · rw [q (by omega)]
      have : (-1 : Int64).toInt = -1 := by decide
      omega
  · rw [decide_eq_false hk]
    rfl
theorem isW_5 {by' : Nat → Int32} {len st : Nat} {C M : St} (h : Tok by' len st C M) : isWd C 5 = isWM M 100 117 101 0 0 := by
  have htk := h.tk
  obtain ⟨h1, h2, h3, h4, h5, h6, h7, h8, h9, h10, h11, h12, h13⟩ := h
  have hb := bhF_le (by' := by') h1
  have e1 : begR C = st := by unfold begR; rw [h7]; exact nI_clamp (by omega)
  have e2 : endR C = bhF by' len st (kindF by' len st) := by unfold endR; rw [h11]; exact nI_clamp (by omega)
  unfold isWd isWM
  rw [e1, e2, h9, h10, h13, h3]
  by_cases hk : kindF by' len st = 1
  · rw [hk]
    have eb : bhF by' len st 1 = ruF by' 1 (len - st) st := rfl
    have ew : wtF by' len st 1 = woF by' st (len - st) st 0 := rfl
    rw [eb, ew]
    obtain ⟨p, q⟩ := wo_char (by' := by') (st := st) (len - st) st 0 (Nat.le_refl _) (by omega) (by rw [Nat.sub_self]; rfl) (fun j hj => by omega)
    generalize ruF by' 1 (len - st) st - st = L at p q
    generalize woF by' st (len - st) st 0 = w at p q
    rw [Bool.eq_iff_iff]
    simp only [Bool.and_eq_true, decide_eq_true_eq, true_and]
    rw [i64c (y := wv 100 117 101 0 0) (z := 4773) (by decide)]
    have ed : wdF by' st 5 (lenJS.getD 5 0) 0 = true ↔ ((by' (st + 0)).toInt = 100 ∧ (by' (st + 1)).toInt = 117 ∧ (by' (st + 2)).toInt = 101) := by
      show wdF by' st 5 3 0 = true ↔ _
      simp only [wdF]
      simp only [Nat.zero_add, Nat.reduceAdd]
      rw [← i32c (x := by' (st + 0)) (y := chJ 5 0) (z := 100) (by decide)]
      rw [← i32c (x := by' (st + 1)) (y := chJ 5 1) (z := 117) (by decide)]
      rw [← i32c (x := by' (st + 2)) (y := chJ 5 2) (z := 101) (by decide)]
      simp
    rw [ed]
    show L = 3 ∧ _ ↔ _
    by_cases h6 : L ≤ 6
    · obtain ⟨p1, p2⟩ := p h6
      rw [p1]
      match L, h6, p2 with
      | 0, _, p2 => simp only [wsum]; omega
      | 1, _, p2 =>
        have a0 := p2 0 (by omega)
        simp only [wsum, Nat.add_zero, true_and] at *; omega
      | 2, _, p2 =>
        have a0 := p2 0 (by omega)
        have a1 := p2 1 (by omega)
        simp only [wsum, Nat.add_zero, true_and] at *; omega
      | 3, _, p2 =>
        have a0 := p2 0 (by omega)
        have a1 := p2 1 (by omega)
        have a2 := p2 2 (by omega)
        simp only [wsum, Nat.add_zero, true_and] at *; omega
      | 4, _, p2 =>
        have a0 := p2 0 (by omega)
        have a1 := p2 1 (by omega)
        have a2 := p2 2 (by omega)
        have a3 := p2 3 (by omega)
        simp only [wsum, Nat.add_zero, true_and] at *; omega
      | 5, _, p2 =>
        have a0 := p2 0 (by omega)
        have a1 := p2 1 (by omega)
        have a2 := p2 2 (by omega)
        have a3 := p2 3 (by omega)
        have a4 := p2 4 (by omega)
        simp only [wsum, Nat.add_zero, true_and] at *; omega
      | 6, _, p2 =>
        have a0 := p2 0 (by omega)
        have a1 := p2 1 (by omega)
        have a2 := p2 2 (by omega)
        have a3 := p2 3 (by omega)
        have a4 := p2 4 (by omega)
        have a5 := p2 5 (by omega)
        simp only [wsum, Nat.add_zero, true_and] at *; omega
      | n + 7, h, _ => omega
    · rw [q (by omega)]
      have : (-1 : Int64).toInt = -1 := by decide
      omega
  · rw [decide_eq_false hk]
    rfl
theorem isW_6 {by' : Nat → Int32} {len st : Nat} {C M : St} (h : Tok by' len st C M) : isWd C 6 = isWM M 111 102 0 0 0 := by
  have htk := h.tk
  obtain ⟨h1, h2, h3, h4, h5, h6, h7, h8, h9, h10, h11, h12, h13⟩ := h
  have hb := bhF_le (by' := by') h1
  have e1 : begR C = st := by unfold begR; rw [h7]; exact nI_clamp (by omega)
  have e2 : endR C = bhF by' len st (kindF by' len st) := by unfold endR; rw [h11]; exact nI_clamp (by omega)
  unfold isWd isWM
  rw [e1, e2, h9, h10, h13, h3]
  by_cases hk : kindF by' len st = 1
  · rw [hk]
    have eb : bhF by' len st 1 = ruF by' 1 (len - st) st := rfl
    have ew : wtF by' len st 1 = woF by' st (len - st) st 0 := rfl
    rw [eb, ew]
    obtain ⟨p, q⟩ := wo_char (by' := by') (st := st) (len - st) st 0 (Nat.le_refl _) (by omega) (by rw [Nat.sub_self]; rfl) (fun j hj => by omega)
    generalize ruF by' 1 (len - st) st - st = L at p q
    generalize woF by' st (len - st) st 0 = w at p q
    rw [Bool.eq_iff_iff]
    simp only [Bool.and_eq_true, decide_eq_true_eq, true_and]
    rw [i64c (y := wv 111 102 0 0 0) (z := 486) (by decide)]
    have ed : wdF by' st 6 (lenJS.getD 6 0) 0 = true ↔ ((by' (st + 0)).toInt = 111 ∧ (by' (st + 1)).toInt = 102) := by
      show wdF by' st 6 2 0 = true ↔ _
      simp only [wdF]
      simp only [Nat.zero_add, Nat.reduceAdd]
      rw [← i32c (x := by' (st + 0)) (y := chJ 6 0) (z := 111) (by decide)]
      rw [← i32c (x := by' (st + 1)) (y := chJ 6 1) (z := 102) (by decide)]
      simp
    rw [ed]
    show L = 2 ∧ _ ↔ _
    by_cases h6 : L ≤ 6
    · obtain ⟨p1, p2⟩ := p h6
      rw [p1]
      match L, h6, p2 with
      | 0, _, p2 => simp only [wsum]; omega
      | 1, _, p2 =>
        have a0 := p2 0 (by omega)
        simp only [wsum, Nat.add_zero, true_and] at *; omega
      | 2, _, p2 =>
        have a0 := p2 0 (by omega)
        have a1 := p2 1 (by omega)
        simp only [wsum, Nat.add_zero, true_and] at *; omega
      | 3, _, p2 =>
        have a0 := p2 0 (by omega)
        have a1 := p2 1 (by omega)
        have a2 := p2 2 (by omega)
        simp only [wsum, Nat.add_zero, true_and] at *; omega
      | 4, _, p2 =>
        have a0 := p2 0 (by omega)
        have a1 := p2 1 (by omega)
        have a2 := p2 2 (by omega)
        have a3 := p2 3 (by omega)
        simp only [wsum, Nat.add_zero, true_and] at *; omega
      | 5, _, p2 =>
        have a0 := p2 0 (by omega)
        have a1 := p2 1 (by omega)
        have a2 := p2 2 (by omega)
        have a3 := p2 3 (by omega)
        have a4 := p2 4 (by omega)
        simp only [wsum, Nat.add_zero, true_and] at *; omega
      | 6, _, p2 =>
        have a0 := p2 0 (by omega)
        have a1 := p2 1 (by omega)
        have a2 := p2 2 (by omega)
        have a3 := p2 3 (by omega)
        have a4 := p2 4 (by omega)
        have a5 := p2 5 (by omega)
        simp only [wsum, Nat.add_zero, true_and] at *; omega
      | n + 7, h, _ => omega
    · rw [q (by omega)]
      have : (-1 : Int64).toInt = -1 := by decide
      omega
  · rw [decide_eq_false hk]
    rfl
end WRD
