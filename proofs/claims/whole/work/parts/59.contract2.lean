section CNU
theorem fr_all {S1 : St} : FrM (if (cn1 S1).1 32 = 0 then cn1 S1 else cn2 (rcL 20 (clM (cn1 S1)))) S1 := by
  split
  · exact FrM.n1
  · exact FrM.n2 (FrM.rc 20 _ (FrM.cl FrM.n1))
def liK : List Nat := [29, 25, 26, 21] ++ liM
def laK : List Nat := [34, 35, 36] ++ laM
theorem cn3_fr {X S : St} (h : FrM X S) : Fr liK laK [3] [] (cn3 X).2 S := by
  have h' : Fr liK laK [3] [] X S := Fr.wi h (by decide) (by decide) (fun n q => q) (fun n q => q)
  unfold cn3
  dsimp only
  split
  · refine Fr.I (by decide) (Fr.it (fun k Y h => Fr.A (by decide) (Fr.A (by decide) h)) 4 _ (Fr.it (fun k Y h => Fr.A (by decide) h) 5 _ ?_))
    exact Fr.I (by decide) (Fr.I (by decide) (Fr.I (by decide) h'))
  · exact Fr.I (by decide) (Fr.I (by decide) h')
theorem contractM_fr {S : St} : Fr liK laK [3] [] (contractM S).2 S := by
  unfold contractM
  exact cn3_fr fr_all
/-- the terms that the model takes over -/
theorem cn3_ok {X : St} (hb : X.1 34 = 0) : (cn3 X).1 = X.1 27 ∧ (cn3 X).2.1 21 = 0 ∧ (cn3 X).2.1 29 = 0 ∧ (cn3 X).2.1 26 = X.1 28 ∧ (cn3 X).2.1 25 = X.1 27 ∧ (cn3 X).2.1 33 = X.1 33 ∧ (∀ k, k < 5 → (cn3 X).2.2.1 34 k = X.2.1 37 k) ∧ (∀ k, k < 4 → (cn3 X).2.2.1 35 k = X.2.1 38 k ∧ (cn3 X).2.2.1 36 k = X.2.1 39 k) := by
  unfold cn3
  dsimp only
  rw [if_pos (show (setI X 29 0).1 34 = 0 from hb)]
  dsimp only
  have f1 : Fr [] [35, 36] [] [] (it cpAB 4 (it cpP 5 (setI (setI (setI X 29 0) 25 ((setI X 29 0).1 27)) 26 ((setI X 29 0).1 28)))) (it cpP 5 (setI (setI (setI X 29 0) 25 ((setI X 29 0).1 27)) 26 ((setI X 29 0).1 28))) := Fr.it (fun k Y h => Fr.A (by decide) (Fr.A (by decide) h)) 4 _ Fr.rf
  have f2 : Fr [] [34] [] [] (it cpP 5 (setI (setI (setI X 29 0) 25 ((setI X 29 0).1 27)) 26 ((setI X 29 0).1 28))) (setI (setI (setI X 29 0) 25 ((setI X 29 0).1 27)) 26 ((setI X 29 0).1 28)) := Fr.it (fun k Y h => Fr.A (by decide) h) 5 _ Fr.rf
  have c1 := cp_at 5 (setI (setI (setI X 29 0) 25 ((setI X 29 0).1 27)) 26 ((setI X 29 0).1 28))
  generalize it cpP 5 (setI (setI (setI X 29 0) 25 ((setI X 29 0).1 27)) 26 ((setI X 29 0).1 28)) = Y at *
  have c2 := cpab_at 4 Y
  generalize it cpAB 4 Y = Z at *
  refine ⟨?_, rfl, ?_, ?_, ?_, ?_, ?_, ?_⟩
  · exact (f1.1 25 (by decide)).trans (f2.1 25 (by decide))
  · exact (f1.1 29 (by decide)).trans (f2.1 29 (by decide))
  · exact (f1.1 26 (by decide)).trans (f2.1 26 (by decide))
  · exact (f1.1 25 (by decide)).trans (f2.1 25 (by decide))
  · exact (f1.1 33 (by decide)).trans (f2.1 33 (by decide))
  · intro k hk
    exact (congrFun (f1.2.1 34 (by decide)) k).trans (c1 k hk).1
  · intro k hk
    exact ⟨(c2 k hk).1.trans (congrFun (f2.2.1 38 (by decide)) k), (c2 k hk).2.trans (congrFun (f2.2.1 39 (by decide)) k)⟩
theorem cn3_no {X : St} (hb : ¬ X.1 34 = 0) : cn3 X = (-6, setI (setI X 29 0) 21 (-6)) := by
  unfold cn3
  dsimp only
  rw [if_neg (show ¬ (setI X 29 0).1 34 = 0 from hb)]
  rfl
def liC_1 : List Nat := [0, 6, 1] ++ liR_1
theorem contractC_I_1 {S : St} : (∀ n, n ∉ liC_1 → (contractC 0 1 S).2.1 n = S.1 n) ∧ (∀ n, n ∉ laR_1 → (contractC 0 1 S).2.2.1 n = S.2.1 n) ∧ (contractC 0 1 S).2.2.2.1 = (readS 1 S).2.2.2.1 ∧ (contractC 0 1 S).2.2.2.2.1 = (readS 1 S).2.2.2.2.1 := by
  have h := fr_read_1 (S := S)
  have h' : Fr liC_1 laR_1 [] [] (readS 1 S).2 S := Fr.wi h (by decide) (fun n q => q) (fun n q => q) (fun n q => q)
  have h2 : Fr liC_1 laR_1 [] [] (setI (setI (readS 1 S).2 0 (readS 1 S).1) 6 0) S := Fr.I (by decide) (Fr.I (by decide) h')
  unfold contractC
  dsimp only
  split
  · exact ⟨(Fr.I (k := 1) (x := 0) (by decide) h2).1, h2.2.1, rfl, rfl⟩
  · exact ⟨(Fr.I (k := 1) (x := -6) (by decide) h2).1, h2.2.1, rfl, rfl⟩
theorem s_contract_0 {S : St} {len : Nat} (h : RT S len) (hT : RTm S 0) (hP : RP S 0) : (contractC 0 1 S).1 = (contractM (contractC 0 1 S).2).1 ∧ RM (contractM (contractC 0 1 S).2).2 ∧ RT (contractM (contractC 0 1 S).2).2 0 ∧ ((RTm (contractM (contractC 0 1 S).2).2 1 ∧ RP (contractM (contractC 0 1 S).2).2 1) ∨ (RTm (contractM (contractC 0 1 S).2).2 0 ∧ RP (contractM (contractC 0 1 S).2).2 0)) := by
  obtain ⟨i1, i2, i3, i4⟩ := contractC_I_1 (S := S)
  have hA := rd_all_1 (S1 := (contractC 0 1 S).2) h (i1 _ (by decide)) (i2 _ (by decide))
  have hfr := fr_all (S1 := (contractC 0 1 S).2)
  have hfr3 := cn3_fr hfr
  have hP0 := readS_P01 1 (by decide) S
  have hF := fr_read_1 (S := S)
  have hR : ∀ X : St, X.1 6 = 0 → X.1 29 = 0 → X.2.1 10 = (contractC 0 1 S).2.2.1 10 → X.2.1 40 = (contractC 0 1 S).2.2.1 40 → RT X 0 := by
    intro X x1 x2 x3 x4
    refine ⟨by omega, x1.trans nI_0.symm, x2.trans nI_0.symm, ?_⟩
    rw [x3, x4, i2 10 (by decide), i2 40 (by decide)]
    exact h.2.2.2
  unfold contractM
  generalize hX : (if (cn1 (contractC 0 1 S).2).1 32 = 0 then cn1 (contractC 0 1 S).2 else cn2 (rcL 20 (clM (cn1 (contractC 0 1 S).2)))) = X at hA hfr hfr3
  clear hX
  rcases hA with ⟨a1, a2, ⟨m, hm, d1, d2, d3, d4, d5, d6⟩, a4⟩ | ⟨a1, a2, a3⟩
  · obtain ⟨c1, c2, c3, c4, c5, c6, c7, c8⟩ := cn3_ok a2
    have eC : contractC 0 1 S = ((readS 1 S).2.1 (18 + 1), setI (setP (setP (setI (setI (readS 1 S).2 0 (readS 1 S).1) 6 0) 0 (35 + 4 * 1)) 1 (35 + 4 * 0)) 1 0) := by
      unfold contractC
      dsimp only
      rw [if_pos a1]
      rfl
    rw [eC] at hfr hfr3 hR ⊢
    generalize cn3 X = Z at *
    generalize readS 1 S = q at *
    refine ⟨?_, ⟨?_, ?_⟩, ?_, Or.inl ⟨⟨?_, ?_, ?_, ?_, ?_⟩, ?_, ?_⟩⟩
    · rw [c1, d6]
      exact d5
    · rw [c2]
      exact hfr3.1 1 (by decide)
    · rw [c6, a4]
      exact (hfr3.1 0 (by decide)).trans a1
    · exact hR Z.2 (hfr3.1 6 (by decide)) c3 (hfr3.2.1 10 (by decide)) (hfr3.2.1 40 (by decide))
    · intro k hk
      rw [c7 k hk, hfr3.2.1 (18 + 1) (by decide)]
      exact d1 k hk
    · intro k hk
      rw [(c8 k hk).1, (c8 k hk).2, hfr3.2.1 (20 + 1) (by decide), hfr3.2.1 (22 + 1) (by decide)]
      exact d2 k hk
    · rw [c4, hfr3.1 (16 + 1) (by decide)]
      exact d3
    · rw [c4]
      exact d4
    · rw [c5, d6, hfr3.1 (18 + 1) (by decide)]
      exact d5
    · exact hfr3.2.2.2.2 0 (by decide)
    · exact hfr3.2.2.2.2 1 (by decide)
  · have eC : contractC 0 1 S = (-6, setI (setI (setI (readS 1 S).2 0 (readS 1 S).1) 6 0) 1 (-6)) := by
      unfold contractC
      dsimp only
      rw [if_neg a1]
      rfl
    rw [eC] at hfr hfr3 hR ⊢
    rw [cn3_no a2] at hfr3 ⊢
    have hF' : FrR_1 (readS 1 S).2 S := hF
    generalize readS 1 S = q at *
    have eI : ∀ n, n ∉ liK ++ liC_1 → (setI (setI X 29 0) 21 (-6)).1 n = S.1 n := by
      intro n hn
      rw [List.mem_append, not_or] at hn
      rw [hfr3.1 n hn.1]
      have hF2 : Fr liC_1 laR_1 [] [] q.2 S := Fr.wi hF' (by decide) (fun n q => q) (fun n q => q) (fun n q => q)
      exact (Fr.I (k := 1) (x := -6) (by decide) (Fr.I (k := 6) (x := 0) (by decide) (Fr.I (k := 0) (x := q.1) (by decide) hF2))).1 n hn.2
    have eA : ∀ n, n ∉ laM ++ laR_1 → (setI (setI X 29 0) 21 (-6)).2.1 n = S.2.1 n := by
      intro n hn
      rw [List.mem_append, not_or] at hn
      exact (hfr.2.1 n hn.1).trans (hF'.2.1 n hn.2)
    have eQ : X.1 26 = S.1 26 ∧ X.1 25 = S.1 25 := by
      refine ⟨(hfr.1 26 (by decide)).trans ?_, (hfr.1 25 (by decide)).trans ?_⟩
      · exact hF'.1 26 (by decide)
      · exact hF'.1 25 (by decide)
    refine ⟨rfl, ⟨?_, ?_⟩, ?_, Or.inr ⟨⟨?_, ?_, ?_, ?_, ?_⟩, ?_, ?_⟩⟩
    · exact hfr3.1 1 (by decide)
    · exact (hfr3.1 0 (by decide)).trans a3.symm
    · exact hR _ (hfr3.1 6 (by decide)) rfl (hfr3.2.1 10 (by decide)) (hfr3.2.1 40 (by decide))
    · rw [eA _ (by decide), eA _ (by decide)]
      exact hT.1
    · rw [eA _ (by decide), eA _ (by decide), eA _ (by decide), eA _ (by decide)]
      exact hT.2.1
    · rw [eI (16 + 0) (by decide)]
      exact hT.2.2.1.trans eQ.1.symm
    · show rng (-1) 10000 (X.1 26)
      rw [eQ.1]
      exact hT.2.2.2.1
    · rw [eI (18 + 0) (by decide)]
      exact hT.2.2.2.2.trans eQ.2.symm
    · exact (hfr3.2.2.2.2 0 (by decide)).trans ((hP0 0 (by decide)).trans hP.1)
    · exact (hfr3.2.2.2.2 1 (by decide)).trans ((hP0 1 (by decide)).trans hP.2)
def liC_0 : List Nat := [0, 6, 1] ++ liR_0
theorem contractC_I_0 {S : St} : (∀ n, n ∉ liC_0 → (contractC 1 0 S).2.1 n = S.1 n) ∧ (∀ n, n ∉ laR_0 → (contractC 1 0 S).2.2.1 n = S.2.1 n) ∧ (contractC 1 0 S).2.2.2.1 = (readS 0 S).2.2.2.1 ∧ (contractC 1 0 S).2.2.2.2.1 = (readS 0 S).2.2.2.2.1 := by
  have h := fr_read_0 (S := S)
  have h' : Fr liC_0 laR_0 [] [] (readS 0 S).2 S := Fr.wi h (by decide) (fun n q => q) (fun n q => q) (fun n q => q)
  have h2 : Fr liC_0 laR_0 [] [] (setI (setI (readS 0 S).2 0 (readS 0 S).1) 6 0) S := Fr.I (by decide) (Fr.I (by decide) h')
  unfold contractC
  dsimp only
  split
  · exact ⟨(Fr.I (k := 1) (x := 0) (by decide) h2).1, h2.2.1, rfl, rfl⟩
  · exact ⟨(Fr.I (k := 1) (x := -6) (by decide) h2).1, h2.2.1, rfl, rfl⟩
theorem s_contract_1 {S : St} {len : Nat} (h : RT S len) (hT : RTm S 1) (hP : RP S 1) : (contractC 1 0 S).1 = (contractM (contractC 1 0 S).2).1 ∧ RM (contractM (contractC 1 0 S).2).2 ∧ RT (contractM (contractC 1 0 S).2).2 0 ∧ ((RTm (contractM (contractC 1 0 S).2).2 0 ∧ RP (contractM (contractC 1 0 S).2).2 0) ∨ (RTm (contractM (contractC 1 0 S).2).2 1 ∧ RP (contractM (contractC 1 0 S).2).2 1)) := by
  obtain ⟨i1, i2, i3, i4⟩ := contractC_I_0 (S := S)
  have hA := rd_all_0 (S1 := (contractC 1 0 S).2) h (i1 _ (by decide)) (i2 _ (by decide))
  have hfr := fr_all (S1 := (contractC 1 0 S).2)
  have hfr3 := cn3_fr hfr
  have hP0 := readS_P01 0 (by decide) S
  have hF := fr_read_0 (S := S)
  have hR : ∀ X : St, X.1 6 = 0 → X.1 29 = 0 → X.2.1 10 = (contractC 1 0 S).2.2.1 10 → X.2.1 40 = (contractC 1 0 S).2.2.1 40 → RT X 0 := by
    intro X x1 x2 x3 x4
    refine ⟨by omega, x1.trans nI_0.symm, x2.trans nI_0.symm, ?_⟩
    rw [x3, x4, i2 10 (by decide), i2 40 (by decide)]
    exact h.2.2.2
  unfold contractM
  generalize hX : (if (cn1 (contractC 1 0 S).2).1 32 = 0 then cn1 (contractC 1 0 S).2 else cn2 (rcL 20 (clM (cn1 (contractC 1 0 S).2)))) = X at hA hfr hfr3
  clear hX
  rcases hA with ⟨a1, a2, ⟨m, hm, d1, d2, d3, d4, d5, d6⟩, a4⟩ | ⟨a1, a2, a3⟩
  · obtain ⟨c1, c2, c3, c4, c5, c6, c7, c8⟩ := cn3_ok a2
    have eC : contractC 1 0 S = ((readS 0 S).2.1 (18 + 0), setI (setP (setP (setI (setI (readS 0 S).2 0 (readS 0 S).1) 6 0) 0 (35 + 4 * 0)) 1 (35 + 4 * 1)) 1 0) := by
      unfold contractC
      dsimp only
      rw [if_pos a1]
      rfl
    rw [eC] at hfr hfr3 hR ⊢
    generalize cn3 X = Z at *
    generalize readS 0 S = q at *
    refine ⟨?_, ⟨?_, ?_⟩, ?_, Or.inl ⟨⟨?_, ?_, ?_, ?_, ?_⟩, ?_, ?_⟩⟩
    · rw [c1, d6]
      exact d5
    · rw [c2]
      exact hfr3.1 1 (by decide)
    · rw [c6, a4]
      exact (hfr3.1 0 (by decide)).trans a1
    · exact hR Z.2 (hfr3.1 6 (by decide)) c3 (hfr3.2.1 10 (by decide)) (hfr3.2.1 40 (by decide))
    · intro k hk
      rw [c7 k hk, hfr3.2.1 (18 + 0) (by decide)]
      exact d1 k hk
    · intro k hk
      rw [(c8 k hk).1, (c8 k hk).2, hfr3.2.1 (20 + 0) (by decide), hfr3.2.1 (22 + 0) (by decide)]
      exact d2 k hk
    · rw [c4, hfr3.1 (16 + 0) (by decide)]
      exact d3
    · rw [c4]
      exact d4
    · rw [c5, d6, hfr3.1 (18 + 0) (by decide)]
      exact d5
    · exact hfr3.2.2.2.2 0 (by decide)
    · exact hfr3.2.2.2.2 1 (by decide)
  · have eC : contractC 1 0 S = (-6, setI (setI (setI (readS 0 S).2 0 (readS 0 S).1) 6 0) 1 (-6)) := by
      unfold contractC
      dsimp only
      rw [if_neg a1]
      rfl
    rw [eC] at hfr hfr3 hR ⊢
    rw [cn3_no a2] at hfr3 ⊢
    have hF' : FrR_0 (readS 0 S).2 S := hF
    generalize readS 0 S = q at *
    have eI : ∀ n, n ∉ liK ++ liC_0 → (setI (setI X 29 0) 21 (-6)).1 n = S.1 n := by
      intro n hn
      rw [List.mem_append, not_or] at hn
      rw [hfr3.1 n hn.1]
      have hF2 : Fr liC_0 laR_0 [] [] q.2 S := Fr.wi hF' (by decide) (fun n q => q) (fun n q => q) (fun n q => q)
      exact (Fr.I (k := 1) (x := -6) (by decide) (Fr.I (k := 6) (x := 0) (by decide) (Fr.I (k := 0) (x := q.1) (by decide) hF2))).1 n hn.2
    have eA : ∀ n, n ∉ laM ++ laR_0 → (setI (setI X 29 0) 21 (-6)).2.1 n = S.2.1 n := by
      intro n hn
      rw [List.mem_append, not_or] at hn
      exact (hfr.2.1 n hn.1).trans (hF'.2.1 n hn.2)
    have eQ : X.1 26 = S.1 26 ∧ X.1 25 = S.1 25 := by
      refine ⟨(hfr.1 26 (by decide)).trans ?_, (hfr.1 25 (by decide)).trans ?_⟩
      · exact hF'.1 26 (by decide)
      · exact hF'.1 25 (by decide)
    refine ⟨rfl, ⟨?_, ?_⟩, ?_, Or.inr ⟨⟨?_, ?_, ?_, ?_, ?_⟩, ?_, ?_⟩⟩
    · exact hfr3.1 1 (by decide)
    · exact (hfr3.1 0 (by decide)).trans a3.symm
    · exact hR _ (hfr3.1 6 (by decide)) rfl (hfr3.2.1 10 (by decide)) (hfr3.2.1 40 (by decide))
    · rw [eA _ (by decide), eA _ (by decide)]
      exact hT.1
    · rw [eA _ (by decide), eA _ (by decide), eA _ (by decide), eA _ (by decide)]
      exact hT.2.1
    · rw [eI (16 + 1) (by decide)]
      exact hT.2.2.1.trans eQ.1.symm
    · show rng (-1) 10000 (X.1 26)
      rw [eQ.1]
      exact hT.2.2.2.1
    · rw [eI (18 + 1) (by decide)]
      exact hT.2.2.2.2.trans eQ.2.symm
    · exact (hfr3.2.2.2.2 0 (by decide)).trans ((hP0 0 (by decide)).trans hP.1)
    · exact (hfr3.2.2.2.2 1 (by decide)).trans ((hP0 1 (by decide)).trans hP.2)
end CNU
