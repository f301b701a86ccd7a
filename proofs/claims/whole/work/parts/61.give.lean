section GIV
def rmN (A : Nat → Nat) (l R : Nat) : Nat → Nat
  | 0 => R
  | k + 1 => rmN A l R k - (if l < A k then 1 else 0)
def gvN (A : Nat → Nat) (l R k : Nat) : Nat := min (A k) l + (if l < A k ∧ 0 < rmN A l R k then 1 else 0)
theorem rmN_eq (A : Nat → Nat) (l R : Nat) : ∀ n, rmN A l R n = R - abN A l n
  | 0 => rfl
  | n + 1 => by rw [rmN, abN, rmN_eq A l R n]; omega
theorem rmN_le (A : Nat → Nat) (l R : Nat) (n : Nat) : rmN A l R n ≤ R := by rw [rmN_eq]; omega
theorem gvN_sum (A : Nat → Nat) (l R : Nat) : ∀ n, toN (gvN A l R) n + rmN A l R n = sN A l n + R
  | 0 => rfl
  | n + 1 => by
    have h := gvN_sum A l R n
    rw [toN, rmN, sN]
    have e : gvN A l R n = min (A n) l + (if l < A n ∧ 0 < rmN A l R n then 1 else 0) := rfl
    rw [e]
    by_cases q : l < A n
    · by_cases z : 0 < rmN A l R n
      · rw [if_pos ⟨q, z⟩, if_pos q]; omega
      · rw [if_neg (fun e => z e.2), if_pos q]; omega
    · rw [if_neg (fun e => q e.1), if_neg q]; omega
theorem toN_ext {A B : Nat → Nat} : ∀ n, (∀ k, k < n → A k = B k) → toN A n = toN B n
  | 0, _ => rfl
  | n + 1, h => by rw [toN, toN, toN_ext n (fun k hk => h k (by omega)), h n (by omega)]
def Given (A : Nat → Nat) (n D : Nat) (gv : Nat → Nat) : Prop := (D < toN A n ∧ ∃ l, isG A n D l ∧ ∀ k, k < n → gv k = gvN A l (D - sN A l n) k) ∨ (toN A n ≤ D ∧ ∀ k, k < n → gv k = A k)
theorem Given.one {A gv gv' : Nat → Nat} {n D : Nat} (h : Given A n D gv) (h' : Given A n D gv') (k : Nat) (hk : k < n) : gv k = gv' k := by
  rcases h with ⟨a, l, b, c⟩ | ⟨a, b⟩
  · rcases h' with ⟨a', l', b', c'⟩ | ⟨a', b'⟩
    · have e := b.one b'
      rw [c k hk, c' k hk, e]
    · omega
  · rcases h' with ⟨a', l', b', c'⟩ | ⟨a', b'⟩
    · omega
    · rw [b k hk, b' k hk]
theorem Given.sum {A gv : Nat → Nat} {n D : Nat} (h : Given A n D gv) : toN gv n = min D (toN A n) := by
  rcases h with ⟨a, l, b, c⟩ | ⟨a, b⟩
  · rw [toN_ext n c]
    have h1 := gvN_sum A l (D - sN A l n) n
    have h2 := rmN_eq A l (D - sN A l n) n
    have h3 := sN_succ A l n
    have h4 := b.1
    have h5 := b.2
    omega
  · rw [toN_ext n b]
    omega
theorem updL_ne {f : Nat → Int64} {n k : Nat} {x : Int64} (h : k ≠ n) : vp_updL f n x k = f k := by unfold vp_updL; rw [if_neg h]
theorem updL_eq {f : Nat → Int64} {n : Nat} {x : Int64} : vp_updL f n x n = x := by unfold vp_updL; rw [if_pos rfl]
theorem lN_le0 {r : Nat} (h : r < 2 ^ 63) : lN r ≤ 0 ↔ r = 0 := by
  have := pk_lLE (a := r) (b := 0) h (by decide)
  rw [show (0 : Int64) = lN 0 from rfl, this]
  omega
theorem lN_m1 {r : Nat} (h : 0 < r) : lN r - 1 = lN (r - 1) := lN_sub (b := 1) h
/-- the component's giving, farmer by farmer -/
theorem ge_res {A : Nat → Nat} {l R : Nat} {X : St} (hl : l < 2 ^ 62) (hR : R < 2 ^ 62) : ∀ n, (∀ k, k < n → X.2.2.2.1 5 k = lN (A k) ∧ A k < 2 ^ 62) → Fr [] [] [] [6] (it (geB (lN l)) n (X, lN R)).1 X ∧ (it (geB (lN l)) n (X, lN R)).2 = lN (rmN A l R n) ∧ ∀ k, k < n → (it (geB (lN l)) n (X, lN R)).1.2.2.2.1 6 k = lN (gvN A l R k)
  | 0, _ => by
    rw [it_0]
    exact ⟨Fr.rf, rfl, fun k hk => absurd hk (by omega)⟩
  | n + 1, h => by
    obtain ⟨i1, i2, i3⟩ := ge_res hl hR n (fun k hk => h k (by omega))
    obtain ⟨h1, h2⟩ := h n (by omega)
    rw [it_s]
    generalize it (geB (lN l)) n (X, lN R) = p at *
    have ha : p.1.2.2.2.1 5 n = lN (A n) := (congrFun (i1.2.2.2.1 5 (by decide)) n).trans h1
    have hr := rmN_le A l R n
    have em : (if lN (A n) < lN l then lN (A n) else lN l) = lN (min (A n) l) := by
      by_cases q : lN (A n) < lN l
      · rw [if_pos q]
        rw [pk_lLT (by omega) (by omega)] at q
        rw [Nat.min_eq_left (by omega)]
      · rw [if_neg q]
        rw [pk_lLT (by omega) (by omega)] at q
        rw [Nat.min_eq_right (by omega)]
    unfold geB
    rw [ha, em, i2]
    dsimp only
    have hA2 : (setB p.1 6 (vp_updL (p.1.2.2.2.1 6) n (lN (min (A n) l)))).2.2.2.1 5 n = lN (A n) := ha
    rw [hA2]
    by_cases q1 : rmN A l R n = 0
    · rw [if_pos ((lN_le0 (by omega)).mpr q1)]
      refine ⟨Fr.B (by decide) i1, ?_, ?_⟩
      · show lN (rmN A l R n) = lN (rmN A l R (n + 1))
        rw [rmN, q1, Nat.zero_sub]
      · intro k hk
        show vp_updL (p.1.2.2.2.1 6) n (lN (min (A n) l)) k = _
        rcases lt_split hk with hk | rfl
        · rw [updL_ne (by omega)]
          exact i3 k hk
        · rw [updL_eq]
          unfold gvN
          rw [if_neg (by omega), Nat.add_zero]
    · rw [if_neg (by rw [lN_le0 (by omega)]; exact q1)]
      by_cases q2 : lN (A n) ≤ lN l
      · rw [if_pos q2]
        rw [pk_lLE (by omega) (by omega)] at q2
        refine ⟨Fr.B (by decide) i1, ?_, ?_⟩
        · show lN (rmN A l R n) = lN (rmN A l R (n + 1))
          rw [rmN, if_neg (by omega), Nat.sub_zero]
        · intro k hk
          show vp_updL (p.1.2.2.2.1 6) n (lN (min (A n) l)) k = _
          rcases lt_split hk with hk | rfl
          · rw [updL_ne (by omega)]
            exact i3 k hk
          · rw [updL_eq]
            unfold gvN
            rw [if_neg (by omega), Nat.add_zero]
      · rw [if_neg q2]
        rw [pk_lLE (by omega) (by omega)] at q2
        refine ⟨Fr.B (by decide) (Fr.B (by decide) i1), ?_, ?_⟩
        · show lN (rmN A l R n) - 1 = lN (rmN A l R (n + 1))
          rw [rmN, if_pos (by omega), lN_m1 (by omega)]
        · intro k hk
          show vp_updL (vp_updL (p.1.2.2.2.1 6) n (lN (min (A n) l))) n (vp_updL (p.1.2.2.2.1 6) n (lN (min (A n) l)) n + 1) k = _
          rcases lt_split hk with hk | rfl
          · rw [updL_ne (by omega), updL_ne (by omega)]
            exact i3 k hk
          · rw [updL_eq, updL_eq, lN_1]
            unfold gvN
            rw [if_pos (by omega)]
/-- the model's -/
theorem gv_res {A : Nat → Nat} {l R : Nat} {grp : Int32} {X : St} (hl : l < 2 ^ 62) (hR : R < 2 ^ 62) : ∀ n, (∀ k, k < n → (X.2.1 24 k = grp → X.2.2.2.1 14 k = lN (A k)) ∧ (¬ X.2.1 24 k = grp → A k = 0) ∧ A k < 2 ^ 62) → Fr [] [] [] [15] (it (gvB grp (lN l)) n (X, lN R, 0)).1 X ∧ (it (gvB grp (lN l)) n (X, lN R, 0)).2.1 = lN (rmN A l R n) ∧ (it (gvB grp (lN l)) n (X, lN R, 0)).2.2 = lN (toN (gvN A l R) n) ∧ (∀ k, k < n → X.2.1 24 k = grp → (it (gvB grp (lN l)) n (X, lN R, 0)).1.2.2.2.1 15 k = lN (gvN A l R k)) ∧ (∀ k, (k < n → ¬ X.2.1 24 k = grp) → (it (gvB grp (lN l)) n (X, lN R, 0)).1.2.2.2.1 15 k = X.2.2.2.1 15 k)
  | 0, _ => by
    rw [it_0]
    exact ⟨Fr.rf, rfl, rfl, fun k hk => absurd hk (by omega), fun k _ => rfl⟩
  | n + 1, h => by
    obtain ⟨i1, i2, i3, i4, i5⟩ := gv_res hl hR n (fun k hk => h k (by omega))
    obtain ⟨h1, h2, h3⟩ := h n (by omega)
    rw [it_s]
    generalize it (gvB grp (lN l)) n (X, lN R, 0) = p at *
    have hg : p.1.2.1 24 n = X.2.1 24 n := congrFun (i1.2.1 24 (by decide)) n
    have hr := rmN_le A l R n
    unfold gvB
    rw [hg]
    by_cases g : X.2.1 24 n = grp
    · have ha : p.1.2.2.2.1 14 n = lN (A n) := (congrFun (i1.2.2.2.1 14 (by decide)) n).trans (h1 g)
      have em : (if lN l ≤ lN (A n) then lN l else lN (A n)) = lN (min (A n) l) := by
        by_cases q : lN l ≤ lN (A n)
        · rw [if_pos q]
          rw [pk_lLE (by omega) (by omega)] at q
          rw [Nat.min_eq_right (by omega)]
        · rw [if_neg q]
          rw [pk_lLE (by omega) (by omega)] at q
          rw [Nat.min_eq_left (by omega)]
      have eo : (if lN (A n) ≤ lN l then (0 : Int64) else if lN (rmN A l R n) ≤ 0 then 0 else 1) = lN (if l < A n ∧ 0 < rmN A l R n then 1 else 0) := by
        by_cases q : lN (A n) ≤ lN l
        · rw [if_pos q]
          rw [pk_lLE (by omega) (by omega)] at q
          rw [if_neg (by omega)]
          rfl
        · rw [if_neg q]
          rw [pk_lLE (by omega) (by omega)] at q
          by_cases z : rmN A l R n = 0
          · rw [if_pos ((lN_le0 (by omega)).mpr z), if_neg (by omega)]
            rfl
          · rw [if_neg (by rw [lN_le0 (by omega)]; exact z), if_pos (by omega)]
            rfl
      rw [if_pos g, ha, i2, em, eo]
      dsimp only
      rw [lN_add]
      refine ⟨Fr.B (by decide) i1, ?_, ?_, ?_, ?_⟩
      · rw [rmN]
        by_cases q : l < A n ∧ 0 < rmN A l R n
        · rw [if_pos q, if_pos q.1, lN_sub (by omega)]
        · rw [if_neg q, lN_sub (by omega)]
          by_cases q2 : l < A n
          · rw [if_pos q2, show rmN A l R n = 0 by omega]
          · rw [if_neg q2]
      · show p.2.2 + vp_updL (p.1.2.2.2.1 15) n _ n = _
        rw [updL_eq, i3, lN_add, toN]
        rfl
      · intro k hk gk
        show vp_updL (p.1.2.2.2.1 15) n _ k = _
        rcases lt_split hk with hk | rfl
        · rw [updL_ne (by omega)]
          exact i4 k hk gk
        · rw [updL_eq]
          rfl
      · intro k hk
        show vp_updL (p.1.2.2.2.1 15) n _ k = _
        have hkn : k ≠ n := by
          intro e
          subst e
          exact hk (by omega) g
        rw [updL_ne hkn]
        exact i5 k (fun q => hk (by omega))
    · rw [if_neg g]
      have a0 := h2 g
      refine ⟨i1, ?_, ?_, ?_, ?_⟩
      · rw [i2, rmN, if_neg (by omega), Nat.sub_zero]
      · rw [i3, toN]
        unfold gvN
        rw [a0, if_neg (by omega), Nat.zero_min]
        rfl
      · intro k hk gk
        rcases lt_split hk with hk | rfl
        · exact i4 k hk gk
        · exact absurd gk g
      · intro k hk
        exact i5 k (fun q => hk (by omega))
end GIV
