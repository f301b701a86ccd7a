section CLC
theorem semi_w {c : Int32} : c.toInt64 = 59 ↔ c = 59 := by
  rw [← Int64.toInt_inj, Int32.toInt_toInt64, ← Int32.toInt_inj]
  rw [show (59 : Int64).toInt = 59 by decide, show (59 : Int32).toInt = 59 by decide]
def EnP (d : Nat) (M X : St) (q : Int32 × St) : Prop := (q.1 = -1 ∧ X.1 34 = 0 ∧ (∃ m, m ≤ 20 ∧ Dr d m m q.2 X) ∧ X.1 33 = M.1 33) ∨ (¬ q.1 = -1 ∧ ¬ X.1 34 = 0 ∧ X.1 33 = q.1)
theorem nI_nm1 {s : Nat} (h : s ≤ 200) : ¬ nI s = -1 := by
  intro e
  have h1 := nI_pos (n := s) (by omega)
  rw [e] at h1
  exact h1 (by decide)
theorem cn2_bad {X : St} (h : ¬ X.1 34 = 0) : cn2 X = X := by unfold cn2; rw [if_neg h]
theorem rc_bad {X : St} (h : ¬ X.1 34 = 0) : ∀ r, rcL r X = X
  | 0 => rfl
  | r + 1 => by rw [rcL, if_neg h]
theorem Tok.cl_0 {by' : Nat → Int32} {len st : Nat} {C M : St} (h : Tok by' len st C M) (x : Int32) : Tok by' len st (setI C (18 + 0) x) M := h
theorem rd_rc_0 {by' : Nat → Int32} {len : Nat} : ∀ (r m st : Nat) (C M : St), m + r = 20 → Tok by' len st C M → Dr 0 m m C M → M.1 34 = 0 → EnP 0 M (cn2 (rcL r (clM M))) (rdL 0 r C) := by
  intro r
  induction r with
  | zero =>
    intro m st C M hm h hD hb
    have hn : ¬ M.1 27 < 20 := by
      rw [hD.2.2.2.2.2, show m = 20 by omega]
      decide
    rw [cl_none hb (by rw [decide_eq_false hn, Bool.and_false]), rcL, cn2_bad (bad_n M), rdL]
    obtain ⟨h1, h2, h3, h4, h5, h6, h7, h8, h9, h10, h11, h12, h13⟩ := h
    refine Or.inr ⟨?_, bad_n M, h8.trans h7.symm⟩
    show ¬ C.1 8 = -1
    rw [h7]
    exact nI_nm1 (by omega)
  | succ r ih =>
    intro m st C M hm h hD hb
    have hn : M.1 27 < 20 := by
      rw [hD.2.2.2.2.2]
      exact nI_lt (b := 20) (by omega) (by omega)
    have hx := clp_0 h hD hb hn
    rw [rdL]
    generalize clM M = X at hx
    generalize rdClause 0 C = c at hx
    obtain ⟨ok, C1⟩ := c
    dsimp only
    rcases hx with ⟨e1, ⟨st1, hT⟩, hD1, hb1, hf⟩ | ⟨e1, hb1, hf, s, hs, hs2⟩
    · dsimp only at e1 hT hD1
      rw [if_pos e1]
      have hT2 := hT.cl_0 (C1.1 (18 + 0) + 1)
      have hD2 : Dr 0 (m + 1) (m + 1) (setI C1 (18 + 0) (C1.1 (18 + 0) + 1)) X := by
        obtain ⟨d1, d2, d3, d4, d5, d6⟩ := hD1
        refine ⟨d1, d2, d3, d4, ?_, d6⟩
        show C1.1 (18 + 0) + 1 = nI (m + 1)
        rw [d5]
        exact (nI_succ m).symm
      generalize setI C1 (18 + 0) (C1.1 (18 + 0) + 1) = C2 at hT2 hD2
      obtain ⟨h1, h2, h3, h4, h5, h6, h7, h8, h9, h10, h11, h12, h13⟩ := id hT2
      have eb : begR C2 = st1 := by unfold begR; rw [h7]; exact nI_clamp (by omega)
      by_cases k0 : kindF by' len st1 = 0
      · rw [if_pos (h9.trans k0), rcL, if_pos hb1, if_neg (by rw [h10, k0]; decide)]
        unfold cn2
        rw [if_pos hb1, if_pos (h10.trans k0)]
        exact Or.inl ⟨rfl, hb1, ⟨m + 1, by omega, hD2⟩, hf⟩
      · rw [if_neg (by rw [h9]; exact k0)]
        by_cases k3 : kindF by' len st1 = 3 ∧ by' st1 = 59
        · have es : semiB C2 = true := by unfold semiB; rw [h9, h3, eb, decide_eq_true k3.1, decide_eq_true k3.2]; rfl
          have ew : X.2.2.1 3 = 59 := by
            rw [h13, k3.1]
            show (by' st1).toInt64 = 59
            exact semi_w.mpr k3.2
          rw [if_pos es, rcL, if_pos hb1, if_pos (h10.trans k3.1), if_pos ew]
          have hy := ih (m + 1) _ (nextS C2) (nextM X) (by omega) hT2.nx hD2.nx_0 hb1
          rcases hy with ⟨y1, y2, y3, y4⟩ | y
          · exact Or.inl ⟨y1, y2, y3, y4.trans hf⟩
          · exact Or.inr y
        · have es : ¬ semiB C2 = true := by
            unfold semiB
            rw [h9, h3, eb]
            intro e
            rw [Bool.and_eq_true, decide_eq_true_eq, decide_eq_true_eq] at e
            exact k3 e
          rw [if_neg es, rcL, if_pos hb1]
          have er : (if X.1 32 = 3 then (if X.2.2.1 3 = 59 then rcL r (clM (nextM X)) else X) else X) = X := by
            by_cases j3 : kindF by' len st1 = 3
            · rw [if_pos (h10.trans j3)]
              have ew : ¬ X.2.2.1 3 = 59 := by
                rw [h13, j3]
                show ¬ (by' st1).toInt64 = 59
                rw [semi_w]
                exact fun e => k3 ⟨j3, e⟩
              rw [if_neg ew]
            · rw [if_neg (by rw [h10]; exact j3)]
          rw [er]
          unfold cn2
          rw [if_pos hb1, if_neg (by rw [h10]; exact k0), must_f hb1]
          refine Or.inr ⟨?_, bad_n X, h8.trans h7.symm⟩
          show ¬ C2.1 8 = -1
          rw [h7]
          exact nI_nm1 (by omega)
    · dsimp only at e1 hf hs
      rw [if_neg (by rw [e1]; decide), rc_bad hb1, cn2_bad hb1]
      refine Or.inr ⟨?_, hb1, hf⟩
      show ¬ C1.1 8 = -1
      rw [hs]
      exact nI_nm1 hs2
theorem Tok.cl_1 {by' : Nat → Int32} {len st : Nat} {C M : St} (h : Tok by' len st C M) (x : Int32) : Tok by' len st (setI C (18 + 1) x) M := h
theorem rd_rc_1 {by' : Nat → Int32} {len : Nat} : ∀ (r m st : Nat) (C M : St), m + r = 20 → Tok by' len st C M → Dr 1 m m C M → M.1 34 = 0 → EnP 1 M (cn2 (rcL r (clM M))) (rdL 1 r C) := by
  intro r
  induction r with
  | zero =>
    intro m st C M hm h hD hb
    have hn : ¬ M.1 27 < 20 := by
      rw [hD.2.2.2.2.2, show m = 20 by omega]
      decide
    rw [cl_none hb (by rw [decide_eq_false hn, Bool.and_false]), rcL, cn2_bad (bad_n M), rdL]
    obtain ⟨h1, h2, h3, h4, h5, h6, h7, h8, h9, h10, h11, h12, h13⟩ := h
    refine Or.inr ⟨?_, bad_n M, h8.trans h7.symm⟩
    show ¬ C.1 8 = -1
    rw [h7]
    exact nI_nm1 (by omega)
  | succ r ih =>
    intro m st C M hm h hD hb
    have hn : M.1 27 < 20 := by
      rw [hD.2.2.2.2.2]
      exact nI_lt (b := 20) (by omega) (by omega)
    have hx := clp_1 h hD hb hn
    rw [rdL]
    generalize clM M = X at hx
    generalize rdClause 1 C = c at hx
    obtain ⟨ok, C1⟩ := c
    dsimp only
    rcases hx with ⟨e1, ⟨st1, hT⟩, hD1, hb1, hf⟩ | ⟨e1, hb1, hf, s, hs, hs2⟩
    · dsimp only at e1 hT hD1
      rw [if_pos e1]
      have hT2 := hT.cl_1 (C1.1 (18 + 1) + 1)
      have hD2 : Dr 1 (m + 1) (m + 1) (setI C1 (18 + 1) (C1.1 (18 + 1) + 1)) X := by
        obtain ⟨d1, d2, d3, d4, d5, d6⟩ := hD1
        refine ⟨d1, d2, d3, d4, ?_, d6⟩
        show C1.1 (18 + 1) + 1 = nI (m + 1)
        rw [d5]
        exact (nI_succ m).symm
      generalize setI C1 (18 + 1) (C1.1 (18 + 1) + 1) = C2 at hT2 hD2
      obtain ⟨h1, h2, h3, h4, h5, h6, h7, h8, h9, h10, h11, h12, h13⟩ := id hT2
      have eb : begR C2 = st1 := by unfold begR; rw [h7]; exact nI_clamp (by omega)
      by_cases k0 : kindF by' len st1 = 0
      · rw [if_pos (h9.trans k0), rcL, if_pos hb1, if_neg (by rw [h10, k0]; decide)]
        unfold cn2
        rw [if_pos hb1, if_pos (h10.trans k0)]
        exact Or.inl ⟨rfl, hb1, ⟨m + 1, by omega, hD2⟩, hf⟩
      · rw [if_neg (by rw [h9]; exact k0)]
        by_cases k3 : kindF by' len st1 = 3 ∧ by' st1 = 59
        · have es : semiB C2 = true := by unfold semiB; rw [h9, h3, eb, decide_eq_true k3.1, decide_eq_true k3.2]; rfl
          have ew : X.2.2.1 3 = 59 := by
            rw [h13, k3.1]
            show (by' st1).toInt64 = 59
            exact semi_w.mpr k3.2
          rw [if_pos es, rcL, if_pos hb1, if_pos (h10.trans k3.1), if_pos ew]
          have hy := ih (m + 1) _ (nextS C2) (nextM X) (by omega) hT2.nx hD2.nx_1 hb1
          rcases hy with ⟨y1, y2, y3, y4⟩ | y
          · exact Or.inl ⟨y1, y2, y3, y4.trans hf⟩
          · exact Or.inr y
        · have es : ¬ semiB C2 = true := by
            unfold semiB
            rw [h9, h3, eb]
            intro e
            rw [Bool.and_eq_true, decide_eq_true_eq, decide_eq_true_eq] at e
            exact k3 e
          rw [if_neg es, rcL, if_pos hb1]
          have er : (if X.1 32 = 3 then (if X.2.2.1 3 = 59 then rcL r (clM (nextM X)) else X) else X) = X := by
            by_cases j3 : kindF by' len st1 = 3
            · rw [if_pos (h10.trans j3)]
              have ew : ¬ X.2.2.1 3 = 59 := by
                rw [h13, j3]
                show ¬ (by' st1).toInt64 = 59
                rw [semi_w]
                exact fun e => k3 ⟨j3, e⟩
              rw [if_neg ew]
            · rw [if_neg (by rw [h10]; exact j3)]
          rw [er]
          unfold cn2
          rw [if_pos hb1, if_neg (by rw [h10]; exact k0), must_f hb1]
          refine Or.inr ⟨?_, bad_n X, h8.trans h7.symm⟩
          show ¬ C2.1 8 = -1
          rw [h7]
          exact nI_nm1 (by omega)
    · dsimp only at e1 hf hs
      rw [if_neg (by rw [e1]; decide), rc_bad hb1, cn2_bad hb1]
      refine Or.inr ⟨?_, hb1, hf⟩
      show ¬ C1.1 8 = -1
      rw [hs]
      exact nI_nm1 hs2
end CLC
