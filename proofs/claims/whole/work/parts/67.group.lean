section GRE
theorem qN_eq (E : Nat → Nat) (Q : Nat) : ∀ n, qN E Q n = Q - toN E n
  | 0 => rfl
  | n + 1 => by rw [qN, toN, qN_eq E Q n]; omega
theorem lf_sum (E : Nat → Nat) (Q : Nat) : ∀ n, toN (fun k => E k - min (E k) (qN E Q k)) n + Q = toN E n + qN E Q n
  | 0 => rfl
  | n + 1 => by
    have h := lf_sum E Q n
    rw [toN, toN, qN]
    omega
theorem gs_N {gr : Nat → Int32} {ow of gi le : Nat → Int64} {grp w : Int32} {V : Nat → Nat} : ∀ n, (∀ k, k < n → (gr k = grp → (if w = 0 then 1 else if w = 1 then ow k - of k else if w = 2 then gi k else le k) = lN (V k)) ∧ (¬ gr k = grp → V k = 0)) → gsF gr ow of gi le grp w n = lN (toN V n)
  | 0, _ => rfl
  | n + 1, h => by
    obtain ⟨h1, h2⟩ := h n (by omega)
    rw [gsF, toN, gs_N n (fun k hk => h k (by omega))]
    by_cases g : gr n = grp
    · rw [if_pos g, h1 g, lN_add]
    · rw [if_neg g, h2 g, Nat.add_zero]
theorem cnt_N (gr : Nat → Int32) (grp : Int32) : ∀ n, cntW gr grp n = toN (fun k => if gr k = grp then 1 else 0) n
  | 0 => rfl
  | n + 1 => by
    rw [cntW, toN, cnt_N gr grp n]
    by_cases g : gr n = grp
    · rw [if_pos g, if_pos g]
    · rw [if_neg g, if_neg g]
      rfl
theorem cnt_le (gr : Nat → Int32) (grp : Int32) : ∀ n, cntW gr grp n ≤ n
  | 0 => Nat.le_refl _
  | n + 1 => by
    have := cnt_le gr grp n
    rw [cntW]
    split <;> omega
/-- group: the same answer -/
theorem s_group {gr day w : Int32} {nf nc nb b : Nat} {S : St} (hF : RF S nf) (hC : RC S nf nc) (hK : RK S nf nb) (hT : RTm S b) : (groupC b nf nc nb gr day w S).1 = (groupM nf nc nb gr day w (groupC b nf nc nb gr day w S).2).1 ∧ eqB (groupC b nf nc nb gr day w S).2 S ∧ eqB (groupM nf nc nb gr day w (groupC b nf nc nb gr day w S).2).2 (th (groupC b nf nc nb gr day w S).2) := by
  have hE : eqB (groupC b nf nc nb gr day w S).2 S := by
    unfold groupC
    split
    · exact eqB.rf
    · split
      · exact eqB.rf
      · split
        · exact eqB.rf
        · exact (standS_eq b _ nf _).tr (drawS_eq b day nf nc nb S)
  have hE2 : ∀ T : St, eqB (groupM nf nc nb gr day w T).2 (th T) := by
    intro T
    unfold groupM
    split
    · exact eqB.rf
    · split
      · exact eqB.rf
      · split
        · exact eqB.rf
        · exact reckonM_eq day nf nc nb (th T)
  refine ⟨?_, hE, hE2 _⟩
  by_cases q1 : outB gr 0 9 = true
  · unfold groupC groupM
    rw [if_pos q1, if_pos q1]
  · by_cases q2 : outB day 0 400 = true
    · unfold groupC groupM
      rw [if_neg q1, if_neg q1, if_pos q2, if_pos q2]
    · by_cases q3 : outB w 0 3 = true
      · unfold groupC groupM
        rw [if_neg q1, if_neg q1, if_neg q2, if_neg q2, if_pos q3, if_pos q3]
      · have hn := hF.1
        obtain ⟨j, hj, ej⟩ := grp_of (rng_of q1)
        generalize hT1 : (groupC b nf nc nb gr day w S).2 = T at hE
        have e1 : (groupC b nf nc nb gr day w S).1 = groupV nf gr (standS b gr nf (drawS b day nf nc nb S)) w.toNatClampNeg := by
          unfold groupC
          rw [if_neg q1, if_neg q2, if_neg q3]
        have e2 : (groupM nf nc nb gr day w T).1 = gsF ((reckonM day nf nc nb (th T)).2.1 24) ((reckonM day nf nc nb (th T)).2.2.2.1 9) ((reckonM day nf nc nb (th T)).2.2.2.1 11) ((reckonM day nf nc nb (th T)).2.2.2.1 15) ((reckonM day nf nc nb (th T)).2.2.2.1 16) gr w nf := by
          unfold groupM
          rw [if_neg q1, if_neg q2, if_neg q3]
        rw [e1, e2]
        have hTt : (th T).2.1 = S.2.1 := hE.2.1
        have hT1' : ∀ n, n ≠ 20 → (th T).1 n = S.1 n := fun n hn' => (up_ne hn').trans (congrFun hE.1 n)
        obtain ⟨A, E, hA⟩ := acc (day := day) (nc := nc) (nb := nb) hF hC hK hT hTt (hT1' _ (by decide))
        have hx := drawS_eq b day nf nc nb S
        have hy := (rkS_eq day nf nc nb (th T))
        unfold reckonM
        generalize drawS b day nf nc nb S = X at *
        generalize rkS day nf nc nb (th T) = Y at *
        obtain ⟨gv, s1, s2, s3, s4, s5, s6⟩ := st_all (S := S) (b := b) hn hF hx.2.1 (hy.2.1.trans hTt) hj hA
        rw [ej]
        have hx2 := (standS_eq b (nI j) nf X).tr hx
        have hy2 := (eqB.it (stB_eq nf) 10 Y).tr hy
        have v2 := s3.2.2.2.1 9 (by decide)
        have v4 := s3.2.2.2.1 11 (by decide)
        generalize standS b (nI j) nf X = X' at *
        generalize it (stB nf) 10 Y = Y' at *
        have hg : Y'.2.1 24 = S.2.1 24 := by rw [hy2.2.1, hTt]
        have hgx : X'.2.1 0 = S.2.1 24 := by rw [hx2.2.1]; exact hF.2.2.2.1
        rw [hg, v2, v4]
        have hr := rng_of q3
        obtain ⟨wn, ew, -, hw⟩ := rng_nI (lo := 0) (hi := 3) hr (by omega)
        have hwc : w.toNatClampNeg = wn := by rw [ew]; exact nI_clamp (by omega)
        rw [hwc, ew]
        match wn, hw with
        | 0, _ =>
          rw [gs_N (V := fun k => if S.2.1 24 k = nI j then 1 else 0) nf (fun k hk => ⟨fun g => by rw [if_pos (by decide), if_pos g]; rfl, fun g => by rw [if_neg g]⟩)]
          show (nI (cntW (X'.2.1 0) (nI j) nf)).toInt64 = _
          have := cnt_le (X'.2.1 0) (nI j) nf
          rw [nI_l (by omega), cnt_N, hgx]
        | 1, _ =>
          rw [gs_N (V := inG (S.2.1 24) (nI j) E) nf (fun k hk => ⟨fun g => by
            rw [if_neg (by decide), if_pos (by decide), inG_dom.1 g]
            obtain ⟨d1, d2, d3, d4, d5, d6, d7, d8, d9, d10⟩ := hA k hk
            rw [← d2, ← d4]
            exact d7, fun g => inG_dom.2 g⟩)]
          exact s5
        | 2, _ =>
          rw [gs_N (V := gv) nf (fun k hk => ⟨fun g => by
            rw [if_neg (by decide), if_neg (by decide), if_pos (by decide)]
            exact (s4 k hk g).2.1, fun g => s1.zero hk (inG_dom.2 g)⟩), s1.sum]
          exact s6
        | 3, _ =>
          rw [gs_N (V := fun k => inG (S.2.1 24) (nI j) E k - min (inG (S.2.1 24) (nI j) E k) (qN (inG (S.2.1 24) (nI j) E) (min (toN (inG (S.2.1 24) (nI j) E) nf) (toN (inG (S.2.1 24) (nI j) A) nf)) k)) nf (fun k hk => ⟨fun g => by
            rw [if_neg (by decide), if_neg (by decide), if_neg (by decide), inG_dom.1 g]
            exact (s4 k hk g).2.2.2, fun g => by rw [inG_dom.2 g, Nat.zero_sub]⟩)]
          show X'.2.2.1 0 - X'.2.2.1 2 = _
          rw [s5, s6, lN_sub (by omega)]
          have h1 := lf_sum (inG (S.2.1 24) (nI j) E) (min (toN (inG (S.2.1 24) (nI j) E) nf) (toN (inG (S.2.1 24) (nI j) A) nf)) nf
          have h2 := qN_eq (inG (S.2.1 24) (nI j) E) (min (toN (inG (S.2.1 24) (nI j) E) nf) (toN (inG (S.2.1 24) (nI j) A) nf)) nf
          congr 1
          omega
end GRE
