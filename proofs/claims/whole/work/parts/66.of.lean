section OFE
def Dv (X Y : St) (b : Nat) (A E : Nat → Nat) (i : Nat) : Prop := X.2.2.2.1 0 i = Y.2.2.2.1 8 i ∧ X.2.2.2.1 1 i = Y.2.2.2.1 9 i ∧ X.2.2.2.1 2 i = Y.2.2.2.1 10 i ∧ X.2.2.2.1 4 i = Y.2.2.2.1 11 i ∧ shareF X b 2 (X.2.2.2.1 2 i - X.2.2.2.1 4 i) = lN (A i) ∧ Y.2.2.2.1 14 i = lN (A i) ∧ X.2.2.2.1 1 i - X.2.2.2.1 4 i = lN (E i) ∧ Y.2.2.2.1 16 i = lN (E i) ∧ A i < 2 ^ 40 ∧ E i < 2 ^ 25
theorem acc {day : Int32} {nf nc nb b : Nat} {S T : St} (hF : RF S nf) (hC : RC S nf nc) (hK : RK S nf nb) (hT : RTm S b) (hY : T.2.1 = S.2.1) (hY1 : T.1 26 = S.1 26) : ∃ A E, ∀ i, i < nf → Dv (drawS b day nf nc nb S) (rkS day nf nc nb T) b A E i := by
  have h := draw_res (day := day) hF hC hK hT hY hY1
  have hx := (drawS_eq b day nf nc nb S).2.1
  have hy := (rkS_eq day nf nc nb T).2.1.trans hY
  generalize drawS b day nf nc nb S = X at *
  generalize rkS day nf nc nb T = Y at *
  have h2 : ∀ i : Nat, ∃ t : Nat × Nat, i < nf → (X.2.2.2.1 0 i = Y.2.2.2.1 8 i ∧ X.2.2.2.1 1 i = Y.2.2.2.1 9 i ∧ X.2.2.2.1 2 i = Y.2.2.2.1 10 i ∧ X.2.2.2.1 4 i = Y.2.2.2.1 11 i ∧ shareF X b 2 (X.2.2.2.1 2 i - X.2.2.2.1 4 i) = lN t.1 ∧ Y.2.2.2.1 14 i = lN t.1 ∧ X.2.2.2.1 1 i - X.2.2.2.1 4 i = lN t.2 ∧ Y.2.2.2.1 16 i = lN t.2 ∧ t.1 < 2 ^ 40 ∧ t.2 < 2 ^ 25) := by
    intro i
    by_cases hi : i < nf
    · obtain ⟨w, e, c, o, x1, x2, x3, x4, x5, x6, x7, x8, x9, x10, x11, x12, x13, x14, x15⟩ := h i hi
      have p := pt_N (Y := Y) (v := c - o) hT (show 2 < 4 by omega) hy (by omega)
      have p2 := p.2
      refine ⟨(shN S 2 (c - o), e - o), fun _ => ⟨x1.trans x2.symm, x3.trans x4.symm, x5.trans x6.symm, x7.trans x8.symm, ?_, x9, ?_, x10, ?_, ?_⟩⟩
      · rw [x5, x7, lN_sub x12]
        exact (sh_pt hT (by omega) hx hy).trans p.1
      · rw [x3, x7, lN_sub x11]
      · show shN S 2 (c - o) < 2 ^ 40
        omega
      · show e - o < 2 ^ 25
        omega
    · exact ⟨(0, 0), fun q => absurd q hi⟩
  obtain ⟨t, ht⟩ := Classical.axiomOfChoice h2
  exact ⟨fun i => (t i).1, fun i => (t i).2, fun i hi => ht i hi⟩
theorem Given.zero {A gv : Nat → Nat} {n D k : Nat} (h : Given A n D gv) (hk : k < n) (h0 : A k = 0) : gv k = 0 := by
  rcases h with ⟨a, l, b, c⟩ | ⟨a, b⟩
  · rw [c k hk]
    unfold gvN
    rw [if_neg (by omega)]
    omega
  · rw [b k hk, h0]
theorem inG_dom {gr : Nat → Int32} {grp : Int32} {A : Nat → Nat} {k : Nat} : (gr k = grp → inG gr grp A k = A k) ∧ (¬ gr k = grp → inG gr grp A k = 0) := ⟨fun g => by unfold inG; rw [if_pos g], fun g => by unfold inG; rw [if_neg g]⟩
theorem lo40 {gr : Nat → Int32} {grp : Int32} {A : Nat → Nat} {k B : Nat} (h : A k < B) : inG gr grp A k < B := by unfold inG; split <;> omega
/-- both sides' stand of one group -/
theorem st_all {nf b j : Nat} {A E : Nat → Nat} {S X Y : St} (hn : nf ≤ 40) (hF : RF S nf) (hX : X.2.1 = S.2.1) (hY : Y.2.1 = S.2.1) (hj : j < 10) (h : ∀ i, i < nf → Dv X Y b A E i) : ∃ gv, Given (inG (S.2.1 24) (nI j) A) nf (toN (inG (S.2.1 24) (nI j) E) nf) gv ∧ Fr [] [] [0, 1, 2] [5, 6, 7] (standS b (nI j) nf X) X ∧ Fr [] [] [] [15, 16] (it (stB nf) 10 Y) Y ∧ (∀ k, k < nf → S.2.1 24 k = nI j → (standS b (nI j) nf X).2.2.2.1 6 k = lN (gv k) ∧ (it (stB nf) 10 Y).2.2.2.1 15 k = lN (gv k) ∧ (standS b (nI j) nf X).2.2.2.1 7 k = lN (min (E k) (qN (inG (S.2.1 24) (nI j) E) (min (toN (inG (S.2.1 24) (nI j) E) nf) (toN (inG (S.2.1 24) (nI j) A) nf)) k)) ∧ (it (stB nf) 10 Y).2.2.2.1 16 k = lN (E k - min (E k) (qN (inG (S.2.1 24) (nI j) E) (min (toN (inG (S.2.1 24) (nI j) E) nf) (toN (inG (S.2.1 24) (nI j) A) nf)) k))) ∧ (standS b (nI j) nf X).2.2.1 0 = lN (toN (inG (S.2.1 24) (nI j) E) nf) ∧ (standS b (nI j) nf X).2.2.1 2 = lN (min (toN (inG (S.2.1 24) (nI j) E) nf) (toN (inG (S.2.1 24) (nI j) A) nf)) := by
  have hG : X.2.1 0 = S.2.1 24 := by rw [hX]; exact hF.2.2.2.1
  have hM : Y.2.1 24 = S.2.1 24 := by rw [hY]
  obtain ⟨gv, s1, s2, s3, s4, s5⟩ := standS_res (A := inG (S.2.1 24) (nI j) A) (E := inG (S.2.1 24) (nI j) E) (b := b) (grp := nI j) (S := X) hn (fun k hk => by
    obtain ⟨d1, d2, d3, d4, d5, d6, d7, d8, d9, d10⟩ := h k hk
    rw [hG]
    refine ⟨fun g => ?_, fun g => ⟨inG_dom.2 g, inG_dom.2 g⟩, lo40 d9, lo40 d10⟩
    rw [inG_dom.1 g, inG_dom.1 g]
    exact ⟨d5, d7⟩)
  obtain ⟨r1, r2⟩ := rounds (A := A) (E := E) (Y := Y) hn (fun k hk => by
    obtain ⟨d1, d2, d3, d4, d5, d6, d7, d8, d9, d10⟩ := h k hk
    exact ⟨d6, d8, d9, d10⟩) 10 (Nat.le_refl _)
  rw [hG] at s3
  rw [hM] at r2
  refine ⟨gv, s1, s2, r1, ?_, s4, s5⟩
  intro k hk g
  obtain ⟨a1, a2⟩ := s3 k hk g
  obtain ⟨gv', f1, f2, f3⟩ := (r2 k hk j hj g).1 hj
  rw [inG_dom.1 g] at a2 f3
  refine ⟨a1, ?_, a2, f3⟩
  rw [f2, f1.one s1 k hk]
theorem fore_eq {nf nd i : Nat} {S X Y : St} (hF : RF S nf) (hL : RLa S nd) (hX : X.2.1 = S.2.1) (hX1 : X.1 = S.1) (hY : Y.2.1 = S.2.1) (hY1 : Y.1 35 = S.1 35) : foreC nd i X = foreM nd i Y := by
  obtain ⟨f1, f2, f3, f4, f5, f6, f7⟩ := hF
  obtain ⟨l1, l2, l3, l4, l5, l6, l7, l8, l9⟩ := hL
  unfold foreC foreM
  rw [hX, hX1, hY, hY1, f5, f6, l4, l5, l6, l8]
theorem can_lt {day : Int32} {nf nc nb b : Nat} {S T : St} (hF : RF S nf) (hC : RC S nf nc) (hK : RK S nf nb) (hT : RTm S b) (hY : T.2.1 = S.2.1) (hY1 : T.1 26 = S.1 26) : ∀ k, k < nf → ((rkS day nf nc nb T).2.2.2.1 14 k).toInt < 2 ^ 61 := by
  obtain ⟨A, E, h⟩ := acc (day := day) hF hC hK hT hY hY1
  intro k hk
  obtain ⟨d1, d2, d3, d4, d5, d6, d7, d8, d9, d10⟩ := h k hk
  rw [d6, pk_lT (by omega)]
  omega
theorem grp_of {x : Int32} (h : rng 0 9 x) : ∃ j, j < 10 ∧ x = nI j := by
  obtain ⟨a, e, h1, h2⟩ := rng_nI (lo := 0) (hi := 9) h (by omega)
  exact ⟨a, by omega, e⟩
/-- of: the same answer -/
theorem s_of {f day w : Int32} {nf nc nb nd b : Nat} {S : St} (hF : RF S nf) (hC : RC S nf nc) (hK : RK S nf nb) (hL : RLa S nd) (hT : RTm S b) : (ofC b nf nc nb nd f day w S).1 = (ofM nf nc nb nd f day w (ofC b nf nc nb nd f day w S).2).1 ∧ eqB (ofC b nf nc nb nd f day w S).2 S ∧ eqB (ofM nf nc nb nd f day w (ofC b nf nc nb nd f day w S).2).2 (th (ofC b nf nc nb nd f day w S).2) := by
  have hE : eqB (ofC b nf nc nb nd f day w S).2 S := by
    unfold ofC
    split
    · exact eqB.rf
    · split
      · exact eqB.rf
      · split
        · exact eqB.rf
        · exact (standS_eq b _ nf _).tr (drawS_eq b day nf nc nb S)
  have hE2 : ∀ T : St, eqB (ofM nf nc nb nd f day w T).2 (th T) := by
    intro T
    unfold ofM
    split
    · exact eqB.rf
    · split
      · exact eqB.rf
      · exact reckonM_eq day nf nc nb (th T)
  refine ⟨?_, hE, hE2 _⟩
  by_cases q1 : outB f 0 (nI nf - 1) = true
  · unfold ofC ofM
    rw [if_pos q1, if_pos q1]
  · by_cases q2 : outB day 0 400 = true
    · unfold ofC ofM
      rw [if_neg q1, if_neg q1, if_pos q2, if_pos q2]
    · by_cases q3 : outB w 0 10 = true
      · unfold ofC ofM
        rw [if_neg q1, if_neg q1, if_neg q2, if_neg q2, if_pos q3, if_pos q3]
      · obtain ⟨i, hi, ei⟩ := idx_of hF.1 q1
        have hn := hF.1
        have hcl : f.toNatClampNeg = i := by rw [ei]; exact nI_clamp (by omega)
        generalize hT1 : (ofC b nf nc nb nd f day w S).2 = T at hE
        have e1 : (ofC b nf nc nb nd f day w S).1 = ofV b nd i (standS b (S.2.1 0 i) nf (drawS b day nf nc nb S)) w.toNatClampNeg := by
          unfold ofC
          rw [if_neg q1, if_neg q2, if_neg q3, hcl]
        have e2 : (ofM nf nc nb nd f day w T).1 = ofVM nd i (reckonM day nf nc nb (th T)) w.toNatClampNeg := by
          unfold ofM
          rw [if_neg q1, if_neg q2, if_neg q3, hcl]
        rw [e1, e2]
        have hTt : (th T).2.1 = S.2.1 := hE.2.1
        have hT1' : ∀ n, n ≠ 20 → (th T).1 n = S.1 n := fun n hn' => (up_ne hn').trans (congrFun hE.1 n)
        obtain ⟨A, E, hA⟩ := acc (day := day) (nc := nc) (nb := nb) hF hC hK hT hTt (hT1' _ (by decide))
        have hx := drawS_eq b day nf nc nb S
        have hy := (rkS_eq day nf nc nb (th T))
        unfold reckonM
        generalize drawS b day nf nc nb S = X at *
        generalize rkS day nf nc nb (th T) = Y at *
        obtain ⟨j, hj, ej⟩ := grp_of (hF.2.2.2.2.2.2 i hi).1
        obtain ⟨gv, s1, s2, s3, s4, s5, s6⟩ := st_all (S := S) (b := b) hn hF hx.2.1 (hy.2.1.trans hTt) hj hA
        have ej' : S.2.1 0 i = nI j := by rw [hF.2.2.2.1]; exact ej
        rw [ej']
        have hx2 := (standS_eq b (nI j) nf X).tr hx
        have hy2 := (eqB.it (stB_eq nf) 10 Y).tr hy
        obtain ⟨g1, g2, g3, g4⟩ := s4 i hi ej
        obtain ⟨d1, d2, d3, d4, d5, d6, d7, d8, d9, d10⟩ := hA i hi
        have w1 := s2.2.2.2.1 0 (by decide)
        have w2 := s2.2.2.2.1 1 (by decide)
        have w3 := s2.2.2.2.1 2 (by decide)
        have w4 := s2.2.2.2.1 4 (by decide)
        have v1 := s3.2.2.2.1 8 (by decide)
        have v2 := s3.2.2.2.1 9 (by decide)
        have v3 := s3.2.2.2.1 10 (by decide)
        have v4 := s3.2.2.2.1 11 (by decide)
        generalize standS b (nI j) nf X = X' at *
        generalize it (stB nf) 10 Y = Y' at *
        have hy2' : Y'.2.1 = S.2.1 := hy2.2.1.trans hTt
        have hb' : Y'.1 35 = S.1 35 := (congrFun hy2.1 _).trans (hT1' _ (by decide))
        have hfo : foreC nd i X' = foreM nd i Y' := fore_eq hF hL hx2.2.1 hx2.1 hy2' hb'
        have hr := rng_of q3
        obtain ⟨wn, ew, -, hw⟩ := rng_nI (lo := 0) (hi := 10) hr (by omega)
        have hwc : w.toNatClampNeg = wn := by rw [ew]; exact nI_clamp (by omega)
        rw [hwc]
        match wn, hw with
        | 0, _ => show X'.2.2.2.1 0 i = Y'.2.2.2.1 8 i; rw [w1, v1]; exact d1
        | 1, _ => show X'.2.2.2.1 1 i = Y'.2.2.2.1 9 i; rw [w2, v2]; exact d2
        | 2, _ => show X'.2.2.2.1 2 i = Y'.2.2.2.1 10 i; rw [w3, v3]; exact d3
        | 3, _ => show X'.2.2.2.1 4 i = Y'.2.2.2.1 11 i; rw [w4, v4]; exact d4
        | 4, _ => show X'.2.2.2.1 2 i - X'.2.2.2.1 4 i = Y'.2.2.2.1 10 i - Y'.2.2.2.1 11 i; rw [w3, v3, w4, v4, d3, d4]
        | 5, _ => show X'.2.2.2.1 1 i - X'.2.2.2.1 4 i = Y'.2.2.2.1 9 i - Y'.2.2.2.1 11 i; rw [w2, v2, w4, v4, d2, d4]
        | 6, _ => show X'.2.2.2.1 6 i = Y'.2.2.2.1 15 i; rw [g1, g2]
        | 7, _ => show X'.2.2.2.1 2 i - X'.2.2.2.1 4 i - X'.2.2.2.1 6 i = Y'.2.2.2.1 10 i - Y'.2.2.2.1 11 i - Y'.2.2.2.1 15 i; rw [g1, g2, w3, v3, w4, v4, d3, d4]
        | 8, _ => show X'.2.2.2.1 1 i - X'.2.2.2.1 4 i - X'.2.2.2.1 7 i = Y'.2.2.2.1 16 i; rw [g3, g4, w2, w4, d7, lN_sub (by omega)]
        | 9, _ => exact hfo
        | 10, _ =>
          show (if shortC b nd i X' = true then (1 : Int64) else 0) = if partM Y' 3 (foreM nd i Y') ≤ Y'.2.2.2.1 8 i then 0 else 1
          unfold shortC
          rw [hfo, sh_pt (Y := Y') hT (show 3 < 4 by omega) hx2.2.1 hy2', w1, v1, d1]
          by_cases z : partM Y' 3 (foreM nd i Y') ≤ Y.2.2.2.1 8 i
          · rw [if_pos z, decide_eq_true z]
            rfl
          · rw [if_neg z, decide_eq_false z]
            rfl
end OFE
