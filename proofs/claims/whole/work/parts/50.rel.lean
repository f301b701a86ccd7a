section RELS
variable {S : St}
/-- x lies in lo .. hi -/
def rng (lo hi : Int) (x : Int32) : Prop := lo ≤ x.toInt ∧ x.toInt ≤ hi
theorem rng_of {a lo hi : Int32} (h : ¬ outB a lo hi = true) : rng lo.toInt hi.toInt a := by
  unfold outB at h
  simp only [Bool.or_eq_true, decide_eq_true_eq, Bool.not_eq_true', decide_eq_false_iff_not, not_or, Classical.not_not] at h
  rw [Int32.lt_iff_toInt_lt, Int32.le_iff_toInt_le] at h
  exact ⟨by omega, h.2⟩
def RF (S : St) (nf : Nat) : Prop := nf ≤ 40 ∧ S.1 2 = nI nf ∧ S.1 22 = nI nf ∧ S.2.1 0 = S.2.1 24 ∧ S.2.1 1 = S.2.1 25 ∧ S.2.1 2 = S.2.1 26 ∧ ∀ k, k < nf → rng 0 9 (S.2.1 24 k) ∧ rng 0 1000 (S.2.1 25 k) ∧ rng 1 50 (S.2.1 26 k)
def RC (S : St) (nf nc : Nat) : Prop := nc ≤ 200 ∧ S.1 3 = nI nc ∧ S.1 23 = nI nc ∧ S.2.1 3 = S.2.1 27 ∧ S.2.1 4 = S.2.1 28 ∧ S.2.1 5 = S.2.1 29 ∧ ∀ k, k < nc → (∃ i, i < nf ∧ S.2.1 27 k = nI i) ∧ rng 1 100000 (S.2.1 28 k)
def RK (S : St) (nf nb : Nat) : Prop := nb ≤ 300 ∧ S.1 4 = nI nb ∧ S.1 24 = nI nb ∧ S.2.1 6 = S.2.1 30 ∧ S.2.1 7 = S.2.1 31 ∧ S.2.1 8 = S.2.1 32 ∧ S.2.1 9 = S.2.1 33 ∧ S.1 5 = sumW (S.2.1 31) nb ∧ ∀ k, k < nb → (∃ i, i < nf ∧ S.2.1 30 k = nI i) ∧ rng 1 1000 (S.2.1 31 k) ∧ rng 0 4 (S.2.1 32 k)
def RT (S : St) (len : Nat) : Prop := len ≤ 200 ∧ S.1 6 = nI len ∧ S.1 29 = nI len ∧ S.2.1 10 = S.2.1 40
def RLa (S : St) (nd : Nat) : Prop := nd ≤ 60 ∧ S.1 10 = nI nd ∧ S.1 36 = nI nd ∧ S.2.1 11 = S.2.1 41 ∧ S.2.1 12 = S.2.1 42 ∧ S.2.1 13 = S.2.1 43 ∧ (∀ k, k < nd → rng 0 100 (S.2.1 43 k)) ∧ S.1 11 = S.1 35 ∧ rng 0 10000 (S.1 35)
def RM (S : St) : Prop := S.1 1 = S.1 21 ∧ S.1 0 = S.1 33
/-- a sum that grows by one -/
theorem sumW_upd (f : Nat → Int32) (n : Nat) (x : Int32) : ∀ k, k ≤ n → sumW (upd f n x) k = sumW f k
  | 0, _ => rfl
  | k + 1, h => by
    rw [sumW, sumW, sumW_upd f n x k (by omega)]
    unfold upd
    rw [if_neg (by omega)]
theorem upd_ne {f : Nat → Int32} {n k : Nat} {x : Int32} (h : k ≠ n) : upd f n x k = f k := by unfold upd; rw [if_neg h]
theorem upd_eq {f : Nat → Int32} {n : Nat} {x : Int32} : upd f n x n = x := by unfold upd; rw [if_pos rfl]
theorem RM.refuse {x : Int32} (h : RM S) : RM (toldM x (th (refuseS x S).2)).2 := ⟨rfl, h.2⟩
theorem lt_split {k n : Nat} (h : k < n + 1) : k < n ∨ k = n := by omega
/-- farmer: the same answer, and the halves stay alike -/
theorem s_farmer {nf : Nat} {a b c : Int32} (h : RF S nf) (hm : RM S) : (farmerC nf a b c S).1 = (farmerM nf a b c (farmerC nf a b c S).2).1 ∧ RM (farmerM nf a b c (farmerC nf a b c S).2).2 ∧ ∃ n, RF (farmerM nf a b c (farmerC nf a b c S).2).2 n ∧ nf ≤ n := by
  obtain ⟨h1, h2, h3, h4, h5, h6, h7⟩ := id h
  unfold farmerC farmerM
  by_cases q1 : outB a 0 9 = true
  · simp only [if_pos q1]
    exact ⟨rfl, hm.refuse, nf, h, Nat.le_refl _⟩
  · simp only [if_neg q1]
    by_cases q2 : outB b 0 1000 = true
    · simp only [if_pos q2]
      exact ⟨rfl, hm.refuse, nf, h, Nat.le_refl _⟩
    · simp only [if_neg q2]
      by_cases q3 : outB c 1 50 = true
      · simp only [if_pos q3]
        exact ⟨rfl, hm.refuse, nf, h, Nat.le_refl _⟩
      · simp only [if_neg q3]
        by_cases q4 : nf < 40
        · simp only [if_pos q4]
          refine ⟨trivial, ⟨rfl, hm.2⟩, nf + 1, ⟨by omega, nI_1 nf, rfl, ?_, ?_, ?_, ?_⟩, by omega⟩
          · show upd (S.2.1 0) nf a = upd (S.2.1 24) nf a
            rw [h4]
          · show upd (S.2.1 1) nf b = upd (S.2.1 25) nf b
            rw [h5]
          · show upd (S.2.1 2) nf c = upd (S.2.1 26) nf c
            rw [h6]
          · intro k hk
            show rng 0 9 (upd (S.2.1 24) nf a k) ∧ rng 0 1000 (upd (S.2.1 25) nf b k) ∧ rng 1 50 (upd (S.2.1 26) nf c k)
            rcases lt_split hk with hk | rfl
            · rw [upd_ne (by omega), upd_ne (by omega), upd_ne (by omega)]
              exact h7 k hk
            · rw [upd_eq, upd_eq, upd_eq]
              exact ⟨rng_of q1, rng_of q2, rng_of q3⟩
        · simp only [if_neg q4]
          exact ⟨rfl, hm.refuse, nf, h, Nat.le_refl _⟩
theorem idx_of {f : Int32} {n : Nat} (hn : n ≤ 40) (h : ¬ outB f 0 (nI n - 1) = true) : ∃ i : Nat, i < n ∧ f = nI i := outB_idx (by omega) (by cases hq : outB f 0 (nI n - 1); rfl; exact absurd hq h)
theorem s_credit {nf nc : Nat} {f a k : Int32} (hn : nf ≤ 40) (h : RC S nf nc) (hm : RM S) : (creditC nf nc f a k S).1 = (creditM nf nc f a k (creditC nf nc f a k S).2).1 ∧ RM (creditM nf nc f a k (creditC nf nc f a k S).2).2 ∧ ∃ n, RC (creditM nf nc f a k (creditC nf nc f a k S).2).2 nf n := by
  obtain ⟨h1, h2, h3, h4, h5, h6, h7⟩ := id h
  unfold creditC creditM
  by_cases q1 : outB a 1 100000 = true
  · simp only [if_pos q1]
    exact ⟨rfl, hm.refuse, nc, h⟩
  · simp only [if_neg q1]
    by_cases q2 : outB k 0 400 = true
    · simp only [if_pos q2]
      exact ⟨rfl, hm.refuse, nc, h⟩
    · simp only [if_neg q2]
      by_cases q3 : outB f 0 (nI nf - 1) = true
      · simp only [if_pos q3]
        exact ⟨rfl, hm.refuse, nc, h⟩
      · simp only [if_neg q3]
        by_cases q4 : nc < 200
        · simp only [if_pos q4]
          refine ⟨trivial, ⟨rfl, hm.2⟩, nc + 1, ⟨by omega, nI_1 nc, nI_1 nc, ?_, ?_, ?_, ?_⟩⟩
          · show upd (S.2.1 3) nc f = upd (S.2.1 27) nc f
            rw [h4]
          · show upd (S.2.1 4) nc a = upd (S.2.1 28) nc a
            rw [h5]
          · show upd (S.2.1 5) nc k = upd (S.2.1 29) nc k
            rw [h6]
          · intro j hj
            show (∃ i, i < nf ∧ upd (S.2.1 27) nc f j = nI i) ∧ rng 1 100000 (upd (S.2.1 28) nc a j)
            rcases lt_split hj with hj | rfl
            · rw [upd_ne (by omega), upd_ne (by omega)]
              exact h7 j hj
            · rw [upd_eq, upd_eq]
              exact ⟨idx_of hn q3, rng_of q1⟩
        · simp only [if_neg q4]
          exact ⟨rfl, hm.refuse, nc, h⟩
theorem s_basket {nf nb : Nat} {f w r k : Int32} (hn : nf ≤ 40) (h : RK S nf nb) (hm : RM S) : (basketC nf nb f w r k S).1 = (basketM nf nb f w r k (basketC nf nb f w r k S).2).1 ∧ RM (basketM nf nb f w r k (basketC nf nb f w r k S).2).2 ∧ ∃ n, RK (basketM nf nb f w r k (basketC nf nb f w r k S).2).2 nf n := by
  obtain ⟨h1, h2, h3, h4, h5, h6, h7, h8, h9⟩ := id h
  unfold basketC basketM
  by_cases q1 : outB w 1 1000 = true
  · simp only [if_pos q1]
    exact ⟨rfl, hm.refuse, nb, h⟩
  · simp only [if_neg q1]
    by_cases q2 : outB r 0 4 = true
    · simp only [if_pos q2]
      exact ⟨rfl, hm.refuse, nb, h⟩
    · simp only [if_neg q2]
      by_cases q0 : outB k 0 400 = true
      · simp only [if_pos q0]
        exact ⟨rfl, hm.refuse, nb, h⟩
      · simp only [if_neg q0]
        by_cases q3 : outB f 0 (nI nf - 1) = true
        · simp only [if_pos q3]
          exact ⟨rfl, hm.refuse, nb, h⟩
        · simp only [if_neg q3]
          by_cases q4 : nb < 300
          · simp only [if_pos q4]
            refine ⟨trivial, ⟨rfl, hm.2⟩, nb + 1, ⟨by omega, nI_1 nb, nI_1 nb, ?_, ?_, ?_, ?_, ?_, ?_⟩⟩
            · show upd (S.2.1 6) nb f = upd (S.2.1 30) nb f
              rw [h4]
            · show upd (S.2.1 7) nb w = upd (S.2.1 31) nb w
              rw [h5]
            · show upd (S.2.1 8) nb r = upd (S.2.1 32) nb r
              rw [h6]
            · show upd (S.2.1 9) nb k = upd (S.2.1 33) nb k
              rw [h7]
            · show S.1 5 + w = sumW (upd (S.2.1 31) nb w) (nb + 1)
              rw [sumW, sumW_upd _ _ _ _ (Nat.le_refl _), upd_eq, h8]
            · intro j hj
              show (∃ i, i < nf ∧ upd (S.2.1 30) nb f j = nI i) ∧ rng 1 1000 (upd (S.2.1 31) nb w j) ∧ rng 0 4 (upd (S.2.1 32) nb r j)
              rcases lt_split hj with hj | rfl
              · rw [upd_ne (by omega), upd_ne (by omega), upd_ne (by omega)]
                exact h9 j hj
              · rw [upd_eq, upd_eq, upd_eq]
                exact ⟨idx_of hn q3, rng_of q1, rng_of q2⟩
          · simp only [if_neg q4]
            exact ⟨rfl, hm.refuse, nb, h⟩
theorem s_drought {nd : Nat} {a b c : Int32} (h : RLa S nd) (hm : RM S) : (droughtC nd a b c S).1 = (droughtM nd a b c (droughtC nd a b c S).2).1 ∧ RM (droughtM nd a b c (droughtC nd a b c S).2).2 ∧ ∃ n, RLa (droughtM nd a b c (droughtC nd a b c S).2).2 n := by
  obtain ⟨h1, h2, h3, h4, h5, h6, h7, h8⟩ := id h
  unfold droughtC droughtM
  by_cases q1 : outB a 0 1000 = true
  · simp only [if_pos q1]
    exact ⟨rfl, hm.refuse, nd, h⟩
  · simp only [if_neg q1]
    by_cases q2 : outB b a 1000 = true
    · simp only [if_pos q2]
      exact ⟨rfl, hm.refuse, nd, h⟩
    · simp only [if_neg q2]
      by_cases q3 : outB c 0 100 = true
      · simp only [if_pos q3]
        exact ⟨rfl, hm.refuse, nd, h⟩
      · simp only [if_neg q3]
        by_cases q4 : nd < 60
        · simp only [if_pos q4]
          refine ⟨trivial, ⟨rfl, hm.2⟩, nd + 1, ⟨by omega, nI_1 nd, nI_1 nd, ?_, ?_, ?_, ?_, h8⟩⟩
          · show upd (S.2.1 11) nd a = upd (S.2.1 41) nd a
            rw [h4]
          · show upd (S.2.1 12) nd b = upd (S.2.1 42) nd b
            rw [h5]
          · show upd (S.2.1 13) nd c = upd (S.2.1 43) nd c
            rw [h6]
          · intro j hj
            show rng 0 100 (upd (S.2.1 43) nd c j)
            rcases lt_split hj with hj | rfl
            · rw [upd_ne (by omega)]
              exact h7 j hj
            · rw [upd_eq]
              exact rng_of q3
        · simp only [if_neg q4]
          exact ⟨rfl, hm.refuse, nd, h⟩
theorem s_bears {nd : Nat} {x : Int32} (h : RLa S nd) (hm : RM S) : (bearsC x S).1 = (bearsM x (bearsC x S).2).1 ∧ RM (bearsM x (bearsC x S).2).2 ∧ RLa (bearsM x (bearsC x S).2).2 nd := by
  obtain ⟨h1, h2, h3, h4, h5, h6, h7, h8, h9⟩ := id h
  unfold bearsC bearsM
  by_cases q1 : outB x 0 10000 = true
  · simp only [if_pos q1]
    exact ⟨rfl, hm.refuse, h⟩
  · simp only [if_neg q1]
    exact ⟨h8, ⟨rfl, hm.2⟩, h1, h2, h3, h4, h5, h6, h7, rfl, rng_of q1⟩
theorem s_end {len : Nat} {x : Int32} (h : RT S len) : (endC x S).1 = (endM x (endC x S).2).1 ∧ ∃ n, RT (endM x (endC x S).2).2 n := by
  obtain ⟨h1, h2, h3, h4⟩ := id h
  unfold endC endM
  by_cases q1 : outB x 0 (S.1 6) = true
  · simp only [if_pos q1]
    have q2 : outB x 0 (S.1 29) = true := by rw [h3, ← h2]; exact q1
    rw [if_pos q2]
    exact ⟨rfl, len, h⟩
  · simp only [if_neg q1]
    have q2 : ¬ outB x 0 ((setI S 6 x).1 29) = true := by show ¬ outB x 0 (S.1 29) = true; rw [h3, ← h2]; exact q1
    rw [if_neg q2]
    have q3 : outB x 0 (nI len) = false := by rw [← h2]; cases hq : outB x 0 (S.1 6); rfl; exact absurd hq q1
    obtain ⟨j, hj, rfl⟩ := outB_rng (nI_toInt (by omega)) q3
    exact ⟨rfl, j, by omega, rfl, rfl, h4⟩
theorem byte_eq (x s : Int32) (k : Nat) (h1 : ((s.toUInt32 &&& Int32.toUInt32 31).toBitVec % 32).toNat = k) (h2 : ((s &&& 31).toBitVec.smod 32).toNat = k) (hk : k = 0 ∨ k = 8 ∨ k = 16 ∨ k = 24) : byteAt x s = byteAtM x s := by
  unfold byteAt byteAtM
  rw [pk_and _ 8 (by decide), pk_and _ 8 (by decide), pk_ushr x s k h1]
  congr 1
  have e1 := pk_shr x (s &&& 31) k h2
  have e2 : ((x >>> (s &&& 31)).toBitVec.toNat : Int) = (x >>> (s &&& 31)).toInt % 2 ^ 32 := by
    rw [← Int32.toInt_toBitVec, BitVec.toInt_eq_toNat_bmod]
    have := (x >>> (s &&& 31)).toBitVec.isLt
    rw [Int.bmod_def]
    split <;> omega
  have e3 : (x.toBitVec.toNat : Int) = x.toInt % 2 ^ 32 := by
    rw [← Int32.toInt_toBitVec, BitVec.toInt_eq_toNat_bmod]
    have := x.toBitVec.isLt
    rw [Int.bmod_def]
    split <;> omega
  rw [e1, Int.shiftRight_eq_div_pow] at e2
  rcases hk with rfl | rfl | rfl | rfl <;> omega
theorem four_rel {len : Nat} {x : Int32} (hb : S.2.1 10 = S.2.1 40) : True := trivial
theorem bytes4 (x : Int32) : byteAt x 24 = byteAtM x 24 ∧ byteAt x 16 = byteAtM x 16 ∧ byteAt x 8 = byteAtM x 8 ∧ byteAt x 0 = byteAtM x 0 := ⟨byte_eq x 24 24 (by decide) (by decide) (by omega), byte_eq x 16 16 (by decide) (by decide) (by omega), byte_eq x 8 8 (by decide) (by decide) (by omega), byte_eq x 0 0 (by decide) (by decide) (by omega)⟩
def up4 (n : Nat) (x : Int32) (f : Nat → Int32) : Nat → Int32 := upd (upd (upd (upd f n (byteAtM x 24)) (n + 1) (byteAtM x 16)) (n + 2) (byteAtM x 8)) (n + 3) (byteAtM x 0)
theorem append_b (n : Nat) (x : Int32) (S : St) : (appendS n x S).2.1 10 = up4 n x (S.2.1 10) ∧ (appendS n x S).2.1 40 = S.2.1 40 ∧ (appendS n x S).1 6 = nI (n + 4) := by
  obtain ⟨h1, h2, h3, h4⟩ := bytes4 x
  refine ⟨?_, rfl, rfl⟩
  unfold up4
  rw [← h1, ← h2, ← h3, ← h4]
  rfl
theorem four_b (n : Nat) (x : Int32) (S : St) : (fourM n x S).2.1 40 = up4 n x (S.2.1 40) ∧ (fourM n x S).2.1 10 = S.2.1 10 ∧ (fourM n x S).1 29 = nI (n + 4) := ⟨rfl, rfl, rfl⟩
theorem s_feed {len : Nat} {a b c d e : Int32} (h : RT S len) : (feedC len a b c d e S).1 = (feedM len a b c d e (feedC len a b c d e S).2).1 ∧ ∃ n, RT (feedM len a b c d e (feedC len a b c d e S).2).2 n := by
  obtain ⟨h1, h2, h3, h4⟩ := id h
  unfold feedC feedM
  by_cases q1 : len ≤ 180
  · simp only [if_pos q1]
    refine ⟨trivial, len + 20, by omega, rfl, rfl, ?_⟩
    generalize hX : appendS (len + 16) e (appendS (len + 12) d (appendS (len + 8) c (appendS (len + 4) b (appendS len a S)))) = X
    have e1 : X.2.1 10 = up4 (len + 16) e (up4 (len + 12) d (up4 (len + 8) c (up4 (len + 4) b (up4 len a (S.2.1 10))))) := by
      rw [← hX, (append_b _ _ _).1, (append_b _ _ _).1, (append_b _ _ _).1, (append_b _ _ _).1, (append_b _ _ _).1]
    have e2 : X.2.1 40 = S.2.1 40 := by
      rw [← hX, (append_b _ _ _).2.1, (append_b _ _ _).2.1, (append_b _ _ _).2.1, (append_b _ _ _).2.1, (append_b _ _ _).2.1]
    rw [(four_b _ _ _).2.1, (four_b _ _ _).2.1, (four_b _ _ _).2.1, (four_b _ _ _).2.1, (four_b _ _ _).2.1, (four_b _ _ _).1, (four_b _ _ _).1, (four_b _ _ _).1, (four_b _ _ _).1, (four_b _ _ _).1]
    show X.2.1 10 = up4 (len + 16) e (up4 (len + 12) d (up4 (len + 8) c (up4 (len + 4) b (up4 len a (X.2.1 40)))))
    rw [e1, e2, h4]
  · simp only [if_neg q1]
    exact ⟨trivial, len, h⟩
end RELS
