section CLA
def badM (M : St) : St := setI (setI M 34 1) 33 (M.1 30)
theorem must_t {M : St} (hb : M.1 34 = 0) : mustM true M = nextM M := by unfold mustM; rw [if_pos hb, if_pos rfl]
theorem must_f {M : St} (hb : M.1 34 = 0) : mustM false M = badM M := by unfold mustM; rw [if_pos hb, if_neg (by decide)]; rfl
theorem must_b {M : St} {x : Bool} (hb : ¬ M.1 34 = 0) : mustM x M = M := by unfold mustM; rw [if_neg hb]
theorem bad_n (M : St) : ¬ (badM M).1 34 = 0 := by show ¬ (1 : Int32) = 0; decide
theorem num_bad {lo hi : Int64} {X : St} (hb : ¬ X.1 34 = 0) : (numM lo hi X).2 = X := must_b (x := decide (X.1 32 = 2) && inL (X.2.2.1 3) lo hi) hb
theorem cl1_bad {p l : Bool} {part gr : Int32} {X : St} (hb : ¬ X.1 34 = 0) : cl1 p l part gr X = X := by
  have e1 : ∀ lo hi, (numM lo hi X).2 = X := fun lo hi => must_b hb
  unfold cl1
  dsimp only
  rw [e1]
  have e2 : ∀ a, (cl2 part a X).2 = X := by
    intro a
    unfold cl2
    split
    · rw [must_b hb]
      exact e1 _ _
    · rfl
  rw [e2]
  unfold clEnd
  rw [if_neg hb]
theorem wm_no {M : St} {a b c d e a' b' c' d' e' : Int32} (h : isWM M a b c d e = true) (hn : wv a b c d e ≠ wv a' b' c' d' e') : isWM M a' b' c' d' e' = false := by
  unfold isWM at h ⊢
  simp only [Bool.and_eq_true, decide_eq_true_eq] at h
  rw [h.2, decide_eq_false hn, Bool.and_false]
theorem cl2_no {a : Int32} {X : St} : cl2 (-1) a X = (0, X) := by unfold cl2; rw [if_neg (by decide)]
theorem numM_in {by' : Nat → Int32} {len st : Nat} {C M : St} (h : Tok by' len st C M) (hb : M.1 34 = 0) {lo hi : Int32} {lo' hi' : Int64} (e1 : lo'.toInt = lo.toInt) (e2 : hi'.toInt = hi.toInt) (h0 : 0 ≤ lo.toInt) (h1 : hi.toInt ≤ 10000) (q : outB (numR C) lo hi = false) : numM lo' hi' M = (numR C, nextM M) := by
  obtain ⟨a, b⟩ := num_t h e1 e2 h0 h1
  unfold numM
  rw [a, q, b q]
  show (_, mustM true M) = _
  rw [must_t hb]
theorem numM_out {by' : Nat → Int32} {len st : Nat} {C M : St} (h : Tok by' len st C M) (hb : M.1 34 = 0) {lo hi : Int32} {lo' hi' : Int64} (e1 : lo'.toInt = lo.toInt) (e2 : hi'.toInt = hi.toInt) (h0 : 0 ≤ lo.toInt) (h1 : hi.toInt ≤ 10000) (q : outB (numR C) lo hi = true) : (numM lo' hi' M).2 = badM M := by
  obtain ⟨a, b⟩ := num_t h e1 e2 h0 h1
  unfold numM
  rw [a, q]
  exact must_f hb
theorem cl_price {by' : Nat → Int32} {len st : Nat} {C M : St} (h : Tok by' len st C M) (hb : M.1 34 = 0) (hm : M.1 27 < 20) (hw : isWM M 112 114 105 99 101 = true) : clM M = if outB (numR (nextS C)) 0 4 = true then badM (nextM M) else if outB (numR (nextS (nextS C))) 0 10000 = true then badM (nextM (nextM M)) else setI (setA (nextM (nextM (nextM M))) 37 (upd (M.2.1 37) (numR (nextS C)).toNatClampNeg (numR (nextS (nextS C))))) 27 (M.1 27 + 1) := by
  have w1 : isWM M 113 117 111 116 97 = false := wm_no hw (by decide)
  have w2 : partN M = -1 := by
    unfold partN
    rw [wm_no hw (a' := 111) (b' := 118) (c' := 101) (d' := 114) (e' := 0) (by decide), wm_no hw (a' := 100) (b' := 101) (c' := 98) (d' := 116) (e' := 0) (by decide), wm_no hw (a' := 115) (b' := 116) (c' := 97) (d' := 110) (e' := 100) (by decide), wm_no hw (a' := 100) (b' := 117) (c' := 101) (d' := 0) (e' := 0) (by decide)]
    rfl
  unfold clM
  rw [hw, w1, w2, decide_eq_true hm]
  dsimp only
  show cl1 true false (-1) (if true = true then numM 0 4 (mustM true M) else (0, mustM true M)).1 (if true = true then numM 0 4 (mustM true M) else (0, mustM true M)).2 = _
  rw [must_t hb, if_pos rfl]
  by_cases q1 : outB (numR (nextS C)) 0 4 = true
  · rw [if_pos q1, numM_out h.nx hb (lo := 0) (hi := 4) (by decide) (by decide) (by decide) (by decide) q1, cl1_bad (bad_n _)]
  · rw [if_neg q1, numM_in h.nx hb (lo := 0) (hi := 4) (by decide) (by decide) (by decide) (by decide) (Bool.eq_false_iff.mpr q1)]
    unfold cl1
    dsimp only
    by_cases q2 : outB (numR (nextS (nextS C))) 0 10000 = true
    · rw [if_pos q2, numM_out h.nx.nx hb (lo := 0) (hi := 10000) (by decide) (by decide) (by decide) (by decide) q2, cl2_no]
      unfold clEnd
      rw [if_neg (bad_n _)]
    · rw [if_neg q2, numM_in h.nx.nx hb (lo := 0) (hi := 10000) (by decide) (by decide) (by decide) (by decide) (Bool.eq_false_iff.mpr q2), cl2_no]
      unfold clEnd
      rw [if_pos (show (nextM (nextM (nextM M))).1 34 = 0 from hb)]
      rfl
theorem cl_quota {by' : Nat → Int32} {len st : Nat} {C M : St} (h : Tok by' len st C M) (hb : M.1 34 = 0) (hm : M.1 27 < 20) (hw : isWM M 113 117 111 116 97 = true) : clM M = if outB (numR (nextS C)) 0 10000 = true then badM (nextM M) else setI (setI (nextM (nextM M)) 28 (numR (nextS C))) 27 (M.1 27 + 1) := by
  have w1 : isWM M 112 114 105 99 101 = false := wm_no hw (by decide)
  have w2 : partN M = -1 := by
    unfold partN
    rw [wm_no hw (a' := 111) (b' := 118) (c' := 101) (d' := 114) (e' := 0) (by decide), wm_no hw (a' := 100) (b' := 101) (c' := 98) (d' := 116) (e' := 0) (by decide), wm_no hw (a' := 115) (b' := 116) (c' := 97) (d' := 110) (e' := 100) (by decide), wm_no hw (a' := 100) (b' := 117) (c' := 101) (d' := 0) (e' := 0) (by decide)]
    rfl
  unfold clM
  rw [hw, w1, w2, decide_eq_true hm]
  dsimp only
  show cl1 false true (-1) (if false = true then numM 0 4 (mustM true M) else (0, mustM true M)).1 (if false = true then numM 0 4 (mustM true M) else (0, mustM true M)).2 = _
  rw [must_t hb, if_neg (by decide)]
  unfold cl1
  dsimp only
  by_cases q2 : outB (numR (nextS C)) 0 10000 = true
  · rw [if_pos q2, numM_out h.nx hb (lo := 0) (hi := 10000) (by decide) (by decide) (by decide) (by decide) q2, cl2_no]
    unfold clEnd
    rw [if_neg (bad_n _)]
  · rw [if_neg q2, numM_in h.nx hb (lo := 0) (hi := 10000) (by decide) (by decide) (by decide) (by decide) (Bool.eq_false_iff.mpr q2), cl2_no]
    unfold clEnd
    rw [if_pos (show (nextM (nextM M)).1 34 = 0 from hb)]
    rfl
theorem mx1_l {x : Int32} (h : 0 ≤ x.toInt) : (if 1 ≤ x then x.toInt64 else 1 : Int64).toInt = (mx1 x).toInt ∧ 1 ≤ (mx1 x).toInt := by
  have l1 : 1 ≤ x ↔ 1 ≤ x.toInt := Int32.le_iff_toInt_le
  have l2 : 1 < x ↔ 1 < x.toInt := Int32.lt_iff_toInt_lt
  have t1 : (1 : Int32).toInt = 1 := by decide
  have t2 : (1 : Int64).toInt = 1 := by decide
  unfold mx1
  by_cases a : 1 ≤ x
  · rw [if_pos a, Int32.toInt_toInt64]
    rw [l1] at a
    by_cases b : 1 < x
    · rw [if_pos b]; omega
    · rw [if_neg b]; rw [l2] at b; omega
  · rw [if_neg a]
    rw [l1] at a
    rw [if_neg (fun b => by have := l2.mp b; omega)]
    omega
theorem nxM_A (X : St) : (nextM X).2.1 = X.2.1 := rfl
theorem nxM_n (X : St) : (nextM X).1 27 = X.1 27 := rfl
theorem cl_sh2 {by' : Nat → Int32} {len st k : Nat} {D N : St} {a gr : Int32} (hx : Tok by' len st D N) (hbN : N.1 34 = 0) (hk : k < 4) (ha : 0 ≤ a.toInt) : clEnd false false (nI k) gr a (cl2 (nI k) a N).1 (cl2 (nI k) a N).2 = if isWd D 6 = true then (if outB (numR (nextS D)) (mx1 a) 10000 = true then badM (nextM N) else setI (setA (setA (nextM (nextM N)) 38 (upd (N.2.1 38) k a)) 39 (upd (N.2.1 39) k (numR (nextS D)))) 27 (N.1 27 + 1)) else badM N := by
  have hp : (0 : Int32) ≤ nI k := (Int32.not_lt).mp (nI_pos (by omega))
  have hc : (nI k).toNatClampNeg = k := nI_clamp (by omega)
  obtain ⟨l1, l2⟩ := mx1_l (x := a) ha
  have l3 : 0 ≤ (mx1 a).toInt := Int.le_trans (by decide) l2
  have e6 := isW_6 hx
  unfold cl2
  rw [if_pos hp, ← e6]
  by_cases q2 : isWd D 6 = true
  · rw [if_pos q2, q2, must_t hbN]
    by_cases q3 : outB (numR (nextS D)) (mx1 a) 10000 = true
    · rw [if_pos q3, numM_out hx.nx hbN (lo := mx1 a) (hi := 10000) l1 (by decide) l3 (by decide) q3]
      unfold clEnd
      rw [if_neg (bad_n _)]
    · rw [if_neg q3, numM_in hx.nx hbN (lo := mx1 a) (hi := 10000) l1 (by decide) l3 (by decide) (Bool.eq_false_iff.mpr q3)]
      unfold clEnd
      dsimp only
      rw [if_pos (show (nextM (nextM N)).1 34 = 0 from hbN), hc]
      rw [if_neg (by decide), if_neg (by decide)]
      rfl
  · rw [if_neg q2, Bool.eq_false_iff.mpr q2, must_f hbN]
    rw [num_bad (bad_n _)]
    unfold clEnd
    rw [if_neg (bad_n _)]
theorem cl_sh1 {k : Nat} {M : St} (hb : M.1 34 = 0) (hm : M.1 27 < 20) (hk : k < 4) (w1 : isWM M 112 114 105 99 101 = false) (w2 : isWM M 113 117 111 116 97 = false) (w3 : partN M = nI k) : clM M = cl1 false false (nI k) 0 (nextM M) := by
  have hp : (0 : Int32) ≤ nI k := (Int32.not_lt).mp (nI_pos (by omega))
  unfold clM
  rw [w1, w2, w3, decide_eq_true hm]
  dsimp only
  rw [decide_eq_true hp]
  show cl1 false false (nI k) (if false = true then numM 0 4 (mustM true M) else (0, mustM true M)).1 (if false = true then numM 0 4 (mustM true M) else (0, mustM true M)).2 = _
  rw [must_t hb, if_neg (by decide)]
theorem cl_share {by' : Nat → Int32} {len st k : Nat} {C M : St} (h : Tok by' len st C M) (hb : M.1 34 = 0) (hm : M.1 27 < 20) (hk : k < 4) (w1 : isWM M 112 114 105 99 101 = false) (w2 : isWM M 113 117 111 116 97 = false) (w3 : partN M = nI k) : clM M = if outB (numR (nextS C)) 0 10000 = true then badM (nextM M) else if isWd (nextS (nextS C)) 6 = true then (if outB (numR (nextS (nextS (nextS C)))) (mx1 (numR (nextS C))) 10000 = true then badM (nextM (nextM (nextM M))) else setI (setA (setA (nextM (nextM (nextM (nextM M)))) 38 (upd (M.2.1 38) k (numR (nextS C)))) 39 (upd (M.2.1 39) k (numR (nextS (nextS (nextS C)))))) 27 (M.1 27 + 1)) else badM (nextM (nextM M)) := by
  have hp : (0 : Int32) ≤ nI k := (Int32.not_lt).mp (nI_pos (by omega))
  rw [cl_sh1 hb hm hk w1 w2 w3]
  unfold cl1
  dsimp only
  by_cases q1 : outB (numR (nextS C)) 0 10000 = true
  · rw [if_pos q1]
    rw [numM_out h.nx hb (lo := 0) (hi := 10000) (by decide) (by decide) (by decide) (by decide) q1]
    have e2 : ∀ a, (cl2 (nI k) a (badM (nextM M))).2 = badM (nextM M) := by
      intro a
      unfold cl2
      rw [if_pos hp, must_b (bad_n _)]
      exact num_bad (bad_n _)
    rw [e2]
    unfold clEnd
    rw [if_neg (bad_n _)]
  · have hr := rng_of q1
    have hr0 : 0 ≤ (numR (nextS C)).toInt := by have h0 := hr.1; rw [show (0 : Int32).toInt = 0 by decide] at h0; exact h0
    rw [if_neg q1]
    rw [numM_in h.nx hb (lo := 0) (hi := 10000) (by decide) (by decide) (by decide) (by decide) (Bool.eq_false_iff.mpr q1)]
    dsimp only
    rw [cl_sh2 (N := nextM (nextM M)) h.nx.nx hb hk hr0]
    rw [nxM_A, nxM_A, nxM_n, nxM_n]
theorem cl_none {M : St} (hb : M.1 34 = 0) (hw : ((isWM M 112 114 105 99 101 || (isWM M 113 117 111 116 97 || decide (0 ≤ partN M))) && decide (M.1 27 < 20)) = false) : clM M = badM M := by
  unfold clM
  dsimp only
  rw [hw, must_f hb]
  have e : ∀ p : Bool, (if p = true then numM 0 4 (badM M) else (0, badM M)).2 = badM M := by
    intro p
    cases p with
    | true => exact must_b (x := decide ((badM M).1 32 = 2) && inL ((badM M).2.2.1 3) 0 4) (bad_n M)
    | false => rfl
  rw [e, cl1_bad (bad_n _)]
end CLA
