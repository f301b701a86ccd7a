section CLB
def Dr (d c m : Nat) (C M : St) : Prop := (∀ k, k < 5 → C.2.1 (18 + d) k = M.2.1 37 k ∧ rng 0 10000 (M.2.1 37 k)) ∧ (∀ k, k < 4 → C.2.1 (20 + d) k = M.2.1 38 k ∧ C.2.1 (22 + d) k = M.2.1 39 k ∧ 0 ≤ (M.2.1 38 k).toInt ∧ (M.2.1 38 k).toInt ≤ (M.2.1 39 k).toInt ∧ rng 1 10000 (M.2.1 39 k)) ∧ C.1 (16 + d) = M.1 28 ∧ rng (-1) 10000 (M.1 28) ∧ C.1 (18 + d) = nI c ∧ M.1 27 = nI m
def ClP (by' : Nat → Int32) (len d m : Nat) (M X : St) (r : Bool × St) : Prop := (r.1 = true ∧ (∃ st, Tok by' len st r.2 X) ∧ Dr d m (m + 1) r.2 X ∧ X.1 34 = 0 ∧ X.1 33 = M.1 33) ∨ (r.1 = false ∧ ¬ X.1 34 = 0 ∧ X.1 33 = r.2.1 8 ∧ ∃ s, r.2.1 8 = nI s ∧ s ≤ 200)
theorem ClP.bad {by' : Nat → Int32} {len st d m : Nat} {C M N : St} (h : Tok by' len st C N) : ClP by' len d m M (badM N) (false, C) := by
  obtain ⟨h1, h2, h3, h4, h5, h6, h7, h8, h9, h10, h11, h12, h13⟩ := h
  exact Or.inr ⟨rfl, bad_n N, h8.trans h7.symm, st, h7, by omega⟩
theorem upd_all {f g : Nat → Int32} {n k : Nat} {x y : Int32} {P : Int32 → Int32 → Prop} (h : P (f k) (g k)) (h2 : P x y) : P (upd f n x k) (upd g n y k) := by
  unfold upd
  split
  · exact h2
  · exact h
theorem upd_two {f g f' g' : Nat → Int32} {n k : Nat} {x y x' y' : Int32} {P : Int32 → Int32 → Int32 → Int32 → Prop} (h : P (f k) (g k) (f' k) (g' k)) (h2 : P x y x' y') : P (upd f n x k) (upd g n y k) (upd f' n x' k) (upd g' n y' k) := by
  unfold upd
  split
  · exact h2
  · exact h
theorem mx1_ge (x : Int32) : 1 ≤ (mx1 x).toInt ∧ x.toInt ≤ (mx1 x).toInt := by
  have l2 : 1 < x ↔ 1 < x.toInt := Int32.lt_iff_toInt_lt
  have t1 : (1 : Int32).toInt = 1 := by decide
  unfold mx1
  by_cases b : 1 < x
  · rw [if_pos b]; rw [l2] at b; omega
  · rw [if_neg b]; rw [l2] at b; omega
theorem Dr.nx_0 {c m : Nat} {C M : St} (h : Dr 0 c m C M) : Dr 0 c m (nextS C) (nextM M) := by
  obtain ⟨d1, d2, d3, d4, d5, d6⟩ := h
  exact ⟨d1, d2, d3, d4, d5, d6⟩
theorem tk_price_0 {by' : Nat → Int32} {len st m : Nat} {C M : St} {i : Nat} {x : Int32} (h : Tok by' len st C M) (hD : Dr 0 m m C M) (hb : M.1 34 = 0) (hx : rng 0 10000 x) : (∃ s, Tok by' len s (nextS (setA C (18 + 0) (upd (C.2.1 (18 + 0)) i x))) (setI (setA (nextM M) 37 (upd (M.2.1 37) i x)) 27 (M.1 27 + 1))) ∧ Dr 0 m (m + 1) (nextS (setA C (18 + 0) (upd (C.2.1 (18 + 0)) i x))) (setI (setA (nextM M) 37 (upd (M.2.1 37) i x)) 27 (M.1 27 + 1)) := by
  obtain ⟨d1, d2, d3, d4, d5, d6⟩ := hD
  refine ⟨⟨_, h.nx⟩, ?_, d2, d3, d4, d5, ?_⟩
  · intro k hk
    exact upd_all (P := fun a b => a = b ∧ rng 0 10000 b) (d1 k hk) ⟨rfl, hx⟩
  · show M.1 27 + 1 = nI (m + 1)
    rw [d6]
    exact (nI_succ m).symm
theorem tk_quota_0 {by' : Nat → Int32} {len st m : Nat} {C M : St} {x : Int32} (h : Tok by' len st C M) (hD : Dr 0 m m C M) (hb : M.1 34 = 0) (hx : rng 0 10000 x) : (∃ s, Tok by' len s (nextS (setI C (16 + 0) x)) (setI (setI (nextM M) 28 x) 27 (M.1 27 + 1))) ∧ Dr 0 m (m + 1) (nextS (setI C (16 + 0) x)) (setI (setI (nextM M) 28 x) 27 (M.1 27 + 1)) := by
  obtain ⟨d1, d2, d3, d4, d5, d6⟩ := hD
  refine ⟨⟨_, h.nx⟩, d1, d2, rfl, ⟨Int.le_trans (by decide) hx.1, hx.2⟩, d5, ?_⟩
  show M.1 27 + 1 = nI (m + 1)
  rw [d6]
  exact (nI_succ m).symm
theorem tk_share_0 {by' : Nat → Int32} {len st m : Nat} {C M : St} {i : Nat} {x y : Int32} (h : Tok by' len st C M) (hD : Dr 0 m m C M) (hb : M.1 34 = 0) (hx : 0 ≤ x.toInt ∧ x.toInt ≤ y.toInt ∧ rng 1 10000 y) : (∃ s, Tok by' len s (nextS (shareSet 0 i x y C)) (setI (setA (setA (nextM M) 38 (upd (M.2.1 38) i x)) 39 (upd (M.2.1 39) i y)) 27 (M.1 27 + 1))) ∧ Dr 0 m (m + 1) (nextS (shareSet 0 i x y C)) (setI (setA (setA (nextM M) 38 (upd (M.2.1 38) i x)) 39 (upd (M.2.1 39) i y)) 27 (M.1 27 + 1)) := by
  obtain ⟨d1, d2, d3, d4, d5, d6⟩ := hD
  refine ⟨⟨_, h.nx⟩, d1, ?_, d3, d4, d5, ?_⟩
  · intro j hj
    exact upd_two (P := fun a b a' b' => a = a' ∧ b = b' ∧ 0 ≤ a'.toInt ∧ a'.toInt ≤ b'.toInt ∧ rng 1 10000 b') (d2 j hj) ⟨rfl, rfl, hx⟩
  · show M.1 27 + 1 = nI (m + 1)
    rw [d6]
    exact (nI_succ m).symm
theorem clp_price_0 {by' : Nat → Int32} {len st m : Nat} {C M : St} (h : Tok by' len st C M) (hD : Dr 0 m m C M) (hb : M.1 34 = 0) (hm : M.1 27 < 20) (hw : isWM M 112 114 105 99 101 = true) : ClP by' len 0 m M (clM M) (rdPrice 0 C) := by
  rw [cl_price h hb hm hw]
  unfold rdPrice
  dsimp only
  by_cases q1 : outB (numR (nextS C)) 0 4 = true
  · rw [if_pos q1, if_pos q1]
    exact ClP.bad h.nx
  · rw [if_neg q1, if_neg q1]
    by_cases q2 : outB (numR (nextS (nextS C))) 0 10000 = true
    · rw [if_pos q2, if_pos q2]
      exact ClP.bad h.nx.nx
    · rw [if_neg q2, if_neg q2]
      have hx := tk_price_0 (i := (numR (nextS C)).toNatClampNeg) h.nx.nx hD.nx_0.nx_0 hb (rng_of q2)
      rw [nxM_A, nxM_A, nxM_n, nxM_n] at hx
      exact Or.inl ⟨rfl, hx.1, hx.2, hb, rfl⟩
theorem clp_quota_0 {by' : Nat → Int32} {len st m : Nat} {C M : St} (h : Tok by' len st C M) (hD : Dr 0 m m C M) (hb : M.1 34 = 0) (hm : M.1 27 < 20) (hw : isWM M 113 117 111 116 97 = true) : ClP by' len 0 m M (clM M) (rdQuota 0 C) := by
  rw [cl_quota h hb hm hw]
  unfold rdQuota
  dsimp only
  by_cases q2 : outB (numR (nextS C)) 0 10000 = true
  · rw [if_pos q2, if_pos q2]
    exact ClP.bad h.nx
  · rw [if_neg q2, if_neg q2]
    have hx := tk_quota_0 h.nx hD.nx_0 hb (rng_of q2)
    rw [nxM_n] at hx
    exact Or.inl ⟨rfl, hx.1, hx.2, hb, rfl⟩
theorem clp_share_0 {by' : Nat → Int32} {len st m k : Nat} {C M : St} (h : Tok by' len st C M) (hD : Dr 0 m m C M) (hb : M.1 34 = 0) (hm : M.1 27 < 20) (hk : k < 4) (w1 : isWM M 112 114 105 99 101 = false) (w2 : isWM M 113 117 111 116 97 = false) (w3 : partN M = nI k) : ClP by' len 0 m M (clM M) (rdShare 0 k C) := by
  rw [cl_share h hb hm hk w1 w2 w3]
  unfold rdShare
  dsimp only
  by_cases q1 : outB (numR (nextS C)) 0 10000 = true
  · rw [if_pos q1, if_pos q1]
    exact ClP.bad h.nx
  · rw [if_neg q1, if_neg q1]
    by_cases q2 : isWd (nextS (nextS C)) 6 = true
    · rw [if_pos q2, if_pos q2]
      by_cases q3 : outB (numR (nextS (nextS (nextS C)))) (mx1 (numR (nextS C))) 10000 = true
      · rw [if_pos q3, if_pos q3]
        exact ClP.bad h.nx.nx.nx
      · rw [if_neg q3, if_neg q3]
        have r1 := rng_of q1
        have r3 := rng_of q3
        have r2 := mx1_ge (numR (nextS C))
        have t0 : (0 : Int32).toInt = 0 := by decide
        have t1 : (10000 : Int32).toInt = 10000 := by decide
        unfold rng at r1 r3
        rw [t1] at r1 r3
        rw [t0] at r1
        have hx := tk_share_0 (i := k) (x := numR (nextS C)) (y := numR (nextS (nextS (nextS C)))) h.nx.nx.nx hD.nx_0.nx_0.nx_0 hb ⟨r1.1, by omega, by omega, r3.2⟩
        rw [nxM_A, nxM_A, nxM_A, nxM_n, nxM_n, nxM_n] at hx
        exact Or.inl ⟨rfl, hx.1, hx.2, hb, rfl⟩
    · rw [if_neg q2, if_neg q2]
      exact ClP.bad h.nx.nx
theorem clp_0 {by' : Nat → Int32} {len st m : Nat} {C M : St} (h : Tok by' len st C M) (hD : Dr 0 m m C M) (hb : M.1 34 = 0) (hm : M.1 27 < 20) : ClP by' len 0 m M (clM M) (rdClause 0 C) := by
  unfold rdClause
  rw [isW_0 h, isW_1 h, isW_2 h, isW_3 h, isW_4 h, isW_5 h]
  by_cases w0 : isWM M 112 114 105 99 101 = true
  · rw [if_pos w0]
    exact clp_price_0 h hD hb hm w0
  · rw [if_neg w0]
    have f0 := Bool.eq_false_iff.mpr w0
    by_cases w1 : isWM M 113 117 111 116 97 = true
    · rw [if_pos w1]
      exact clp_quota_0 h hD hb hm w1
    · rw [if_neg w1]
      have f1 := Bool.eq_false_iff.mpr w1
      by_cases w2 : isWM M 111 118 101 114 0 = true
      · rw [if_pos w2]
        exact clp_share_0 h hD hb hm (by omega) f0 f1 (by unfold partN; rw [if_pos w2]; rfl)
      · rw [if_neg w2]
        by_cases w3 : isWM M 100 101 98 116 0 = true
        · rw [if_pos w3]
          exact clp_share_0 h hD hb hm (by omega) f0 f1 (by unfold partN; rw [if_neg w2, if_pos w3]; rfl)
        · rw [if_neg w3]
          by_cases w4 : isWM M 115 116 97 110 100 = true
          · rw [if_pos w4]
            exact clp_share_0 h hD hb hm (by omega) f0 f1 (by unfold partN; rw [if_neg w2, if_neg w3, if_pos w4]; rfl)
          · rw [if_neg w4]
            by_cases w5 : isWM M 100 117 101 0 0 = true
            · rw [if_pos w5]
              exact clp_share_0 h hD hb hm (by omega) f0 f1 (by unfold partN; rw [if_neg w2, if_neg w3, if_neg w4, if_pos w5]; rfl)
            · rw [if_neg w5]
              have e : partN M = -1 := by unfold partN; rw [if_neg w2, if_neg w3, if_neg w4, if_neg w5]
              rw [cl_none hb (by rw [f0, f1, e]; rfl)]
              exact ClP.bad h
theorem Dr.nx_1 {c m : Nat} {C M : St} (h : Dr 1 c m C M) : Dr 1 c m (nextS C) (nextM M) := by
  obtain ⟨d1, d2, d3, d4, d5, d6⟩ := h
  exact ⟨d1, d2, d3, d4, d5, d6⟩
theorem tk_price_1 {by' : Nat → Int32} {len st m : Nat} {C M : St} {i : Nat} {x : Int32} (h : Tok by' len st C M) (hD : Dr 1 m m C M) (hb : M.1 34 = 0) (hx : rng 0 10000 x) : (∃ s, Tok by' len s (nextS (setA C (18 + 1) (upd (C.2.1 (18 + 1)) i x))) (setI (setA (nextM M) 37 (upd (M.2.1 37) i x)) 27 (M.1 27 + 1))) ∧ Dr 1 m (m + 1) (nextS (setA C (18 + 1) (upd (C.2.1 (18 + 1)) i x))) (setI (setA (nextM M) 37 (upd (M.2.1 37) i x)) 27 (M.1 27 + 1)) := by
  obtain ⟨d1, d2, d3, d4, d5, d6⟩ := hD
  refine ⟨⟨_, h.nx⟩, ?_, d2, d3, d4, d5, ?_⟩
  · intro k hk
    exact upd_all (P := fun a b => a = b ∧ rng 0 10000 b) (d1 k hk) ⟨rfl, hx⟩
  · show M.1 27 + 1 = nI (m + 1)
    rw [d6]
    exact (nI_succ m).symm
theorem tk_quota_1 {by' : Nat → Int32} {len st m : Nat} {C M : St} {x : Int32} (h : Tok by' len st C M) (hD : Dr 1 m m C M) (hb : M.1 34 = 0) (hx : rng 0 10000 x) : (∃ s, Tok by' len s (nextS (setI C (16 + 1) x)) (setI (setI (nextM M) 28 x) 27 (M.1 27 + 1))) ∧ Dr 1 m (m + 1) (nextS (setI C (16 + 1) x)) (setI (setI (nextM M) 28 x) 27 (M.1 27 + 1)) := by
  obtain ⟨d1, d2, d3, d4, d5, d6⟩ := hD
  refine ⟨⟨_, h.nx⟩, d1, d2, rfl, ⟨Int.le_trans (by decide) hx.1, hx.2⟩, d5, ?_⟩
  show M.1 27 + 1 = nI (m + 1)
  rw [d6]
  exact (nI_succ m).symm
theorem tk_share_1 {by' : Nat → Int32} {len st m : Nat} {C M : St} {i : Nat} {x y : Int32} (h : Tok by' len st C M) (hD : Dr 1 m m C M) (hb : M.1 34 = 0) (hx : 0 ≤ x.toInt ∧ x.toInt ≤ y.toInt ∧ rng 1 10000 y) : (∃ s, Tok by' len s (nextS (shareSet 1 i x y C)) (setI (setA (setA (nextM M) 38 (upd (M.2.1 38) i x)) 39 (upd (M.2.1 39) i y)) 27 (M.1 27 + 1))) ∧ Dr 1 m (m + 1) (nextS (shareSet 1 i x y C)) (setI (setA (setA (nextM M) 38 (upd (M.2.1 38) i x)) 39 (upd (M.2.1 39) i y)) 27 (M.1 27 + 1)) := by
  obtain ⟨d1, d2, d3, d4, d5, d6⟩ := hD
  refine ⟨⟨_, h.nx⟩, d1, ?_, d3, d4, d5, ?_⟩
  · intro j hj
    exact upd_two (P := fun a b a' b' => a = a' ∧ b = b' ∧ 0 ≤ a'.toInt ∧ a'.toInt ≤ b'.toInt ∧ rng 1 10000 b') (d2 j hj) ⟨rfl, rfl, hx⟩
  · show M.1 27 + 1 = nI (m + 1)
    rw [d6]
    exact (nI_succ m).symm
theorem clp_price_1 {by' : Nat → Int32} {len st m : Nat} {C M : St} (h : Tok by' len st C M) (hD : Dr 1 m m C M) (hb : M.1 34 = 0) (hm : M.1 27 < 20) (hw : isWM M 112 114 105 99 101 = true) : ClP by' len 1 m M (clM M) (rdPrice 1 C) := by
  rw [cl_price h hb hm hw]
  unfold rdPrice
  dsimp only
  by_cases q1 : outB (numR (nextS C)) 0 4 = true
  · rw [if_pos q1, if_pos q1]
    exact ClP.bad h.nx
  · rw [if_neg q1, if_neg q1]
    by_cases q2 : outB (numR (nextS (nextS C))) 0 10000 = true
    · rw [if_pos q2, if_pos q2]
      exact ClP.bad h.nx.nx
    · rw [if_neg q2, if_neg q2]
      have hx := tk_price_1 (i := (numR (nextS C)).toNatClampNeg) h.nx.nx hD.nx_1.nx_1 hb (rng_of q2)
      rw [nxM_A, nxM_A, nxM_n, nxM_n] at hx
      exact Or.inl ⟨rfl, hx.1, hx.2, hb, rfl⟩
theorem clp_quota_1 {by' : Nat → Int32} {len st m : Nat} {C M : St} (h : Tok by' len st C M) (hD : Dr 1 m m C M) (hb : M.1 34 = 0) (hm : M.1 27 < 20) (hw : isWM M 113 117 111 116 97 = true) : ClP by' len 1 m M (clM M) (rdQuota 1 C) := by
  rw [cl_quota h hb hm hw]
  unfold rdQuota
  dsimp only
  by_cases q2 : outB (numR (nextS C)) 0 10000 = true
  · rw [if_pos q2, if_pos q2]
    exact ClP.bad h.nx
  · rw [if_neg q2, if_neg q2]
    have hx := tk_quota_1 h.nx hD.nx_1 hb (rng_of q2)
    rw [nxM_n] at hx
    exact Or.inl ⟨rfl, hx.1, hx.2, hb, rfl⟩
theorem clp_share_1 {by' : Nat → Int32} {len st m k : Nat} {C M : St} (h : Tok by' len st C M) (hD : Dr 1 m m C M) (hb : M.1 34 = 0) (hm : M.1 27 < 20) (hk : k < 4) (w1 : isWM M 112 114 105 99 101 = false) (w2 : isWM M 113 117 111 116 97 = false) (w3 : partN M = nI k) : ClP by' len 1 m M (clM M) (rdShare 1 k C) := by
  rw [cl_share h hb hm hk w1 w2 w3]
  unfold rdShare
  dsimp only
  by_cases q1 : outB (numR (nextS C)) 0 10000 = true
  · rw [if_pos q1, if_pos q1]
    exact ClP.bad h.nx
  · rw [if_neg q1, if_neg q1]
    by_cases q2 : isWd (nextS (nextS C)) 6 = true
    · rw [if_pos q2, if_pos q2]
      by_cases q3 : outB (numR (nextS (nextS (nextS C)))) (mx1 (numR (nextS C))) 10000 = true
      · rw [if_pos q3, if_pos q3]
        exact ClP.bad h.nx.nx.nx
      · rw [if_neg q3, if_neg q3]
        have r1 := rng_of q1
        have r3 := rng_of q3
        have r2 := mx1_ge (numR (nextS C))
        have t0 : (0 : Int32).toInt = 0 := by decide
        have t1 : (10000 : Int32).toInt = 10000 := by decide
        unfold rng at r1 r3
        rw [t1] at r1 r3
        rw [t0] at r1
        have hx := tk_share_1 (i := k) (x := numR (nextS C)) (y := numR (nextS (nextS (nextS C)))) h.nx.nx.nx hD.nx_1.nx_1.nx_1 hb ⟨r1.1, by omega, by omega, r3.2⟩
        rw [nxM_A, nxM_A, nxM_A, nxM_n, nxM_n, nxM_n] at hx
        exact Or.inl ⟨rfl, hx.1, hx.2, hb, rfl⟩
    · rw [if_neg q2, if_neg q2]
      exact ClP.bad h.nx.nx
theorem clp_1 {by' : Nat → Int32} {len st m : Nat} {C M : St} (h : Tok by' len st C M) (hD : Dr 1 m m C M) (hb : M.1 34 = 0) (hm : M.1 27 < 20) : ClP by' len 1 m M (clM M) (rdClause 1 C) := by
  unfold rdClause
  rw [isW_0 h, isW_1 h, isW_2 h, isW_3 h, isW_4 h, isW_5 h]
  by_cases w0 : isWM M 112 114 105 99 101 = true
  · rw [if_pos w0]
    exact clp_price_1 h hD hb hm w0
  · rw [if_neg w0]
    have f0 := Bool.eq_false_iff.mpr w0
    by_cases w1 : isWM M 113 117 111 116 97 = true
    · rw [if_pos w1]
      exact clp_quota_1 h hD hb hm w1
    · rw [if_neg w1]
      have f1 := Bool.eq_false_iff.mpr w1
      by_cases w2 : isWM M 111 118 101 114 0 = true
      · rw [if_pos w2]
        exact clp_share_1 h hD hb hm (by omega) f0 f1 (by unfold partN; rw [if_pos w2]; rfl)
      · rw [if_neg w2]
        by_cases w3 : isWM M 100 101 98 116 0 = true
        · rw [if_pos w3]
          exact clp_share_1 h hD hb hm (by omega) f0 f1 (by unfold partN; rw [if_neg w2, if_pos w3]; rfl)
        · rw [if_neg w3]
          by_cases w4 : isWM M 115 116 97 110 100 = true
          · rw [if_pos w4]
            exact clp_share_1 h hD hb hm (by omega) f0 f1 (by unfold partN; rw [if_neg w2, if_neg w3, if_pos w4]; rfl)
          · rw [if_neg w4]
            by_cases w5 : isWM M 100 117 101 0 0 = true
            · rw [if_pos w5]
              exact clp_share_1 h hD hb hm (by omega) f0 f1 (by unfold partN; rw [if_neg w2, if_neg w3, if_neg w4, if_pos w5]; rfl)
            · rw [if_neg w5]
              have e : partN M = -1 := by unfold partN; rw [if_neg w2, if_neg w3, if_neg w4, if_neg w5]
              rw [cl_none hb (by rw [f0, f1, e]; rfl)]
              exact ClP.bad h
end CLB
