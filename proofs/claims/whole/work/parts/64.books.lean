section BKE
theorem rng_nI {lo hi : Nat} {x : Int32} (h : rng lo hi x) (hh : hi < 2 ^ 31) : ∃ a : Nat, x = nI a ∧ lo ≤ a ∧ a ≤ hi := by
  obtain ⟨h1, h2⟩ := h
  refine ⟨x.toInt.toNat, ?_, by omega, by omega⟩
  rw [← Int32.toInt_inj, nI_toInt (by omega)]
  omega
/-- the credits -/
theorem cr_res {day : Int32} {nf nc : Nat} {S T X0 Y0 : St} (hn : nf ≤ 40) (hC : RC S nf nc) (hX : X0.2.1 = S.2.1) (hY : Y0.2.1 = S.2.1) (h0 : ∀ i, i < nf → X0.2.2.2.1 1 i = 0 ∧ Y0.2.2.2.1 9 i = 0) : ∀ m, m ≤ nc → Fr [] [] [] [1] (it (crB day) m X0) X0 ∧ Fr [] [] [] [9] (it (rkB1 day) m Y0) Y0 ∧ ∀ i, i < nf → ∃ e, (it (crB day) m X0).2.2.2.1 1 i = lN e ∧ (it (rkB1 day) m Y0).2.2.2.1 9 i = lN e ∧ e ≤ 100000 * m
  | 0, _ => by
    rw [it_0, it_0]
    exact ⟨Fr.rf, Fr.rf, fun i hi => ⟨0, (h0 i hi).1, (h0 i hi).2, by omega⟩⟩
  | m + 1, hm => by
    obtain ⟨i1, i2, i3⟩ := cr_res (T := T) (day := day) hn hC hX hY h0 m (by omega)
    obtain ⟨c1, c2, c3, c4, c5, c6, c7⟩ := hC
    obtain ⟨⟨f, hf, ef⟩, ra⟩ := c7 m (by omega)
    obtain ⟨a, ea, a1, a2⟩ := rng_nI (lo := 1) (hi := 100000) ra (by omega)
    rw [it_s, it_s]
    have hx := (eqB.it (crB_eq day) m X0).2.1.trans hX
    have hy := (eqB.it (rkB1_eq day) m Y0).2.1.trans hY
    generalize it (crB day) m X0 = X at *
    generalize it (rkB1 day) m Y0 = Y at *
    have hcl : (nI f).toNatClampNeg = f := nI_clamp (by omega)
    unfold crB rkB1
    rw [hx, hy, c4, c5, c6, ef, ea, hcl, nI_l (by omega)]
    by_cases q : day < S.2.1 29 m
    · rw [if_pos q, if_pos q]
      refine ⟨i1, Fr.B (by decide) i2, ?_⟩
      intro i hi
      obtain ⟨e, x1, x2, x3⟩ := i3 i hi
      refine ⟨e, x1, ?_, by omega⟩
      show vp_updL (Y.2.2.2.1 9) f (Y.2.2.2.1 9 f + 0) i = lN e
      by_cases z : i = f
      · rw [← z, updL_eq, x2]
        exact lN_add e 0
      · rw [updL_ne z]
        exact x2
    · rw [if_neg q, if_neg q]
      refine ⟨Fr.B (by decide) i1, Fr.B (by decide) i2, ?_⟩
      intro i hi
      obtain ⟨e, x1, x2, x3⟩ := i3 i hi
      by_cases z : i = f
      · refine ⟨e + a, ?_, ?_, by omega⟩
        · show vp_updL (X.2.2.2.1 1) f (X.2.2.2.1 1 f + lN a) i = _
          rw [← z, updL_eq, x1, lN_add]
        · show vp_updL (Y.2.2.2.1 9) f (Y.2.2.2.1 9 f + lN a) i = _
          rw [← z, updL_eq, x2, lN_add]
      · refine ⟨e, ?_, ?_, by omega⟩
        · show vp_updL (X.2.2.2.1 1) f (X.2.2.2.1 1 f + lN a) i = _
          rw [updL_ne z]
          exact x1
        · show vp_updL (Y.2.2.2.1 9) f (Y.2.2.2.1 9 f + lN a) i = _
          rw [updL_ne z]
          exact x2
/-- what remains of the quota -/
def rq (quota fields : Int32) (w : Nat) : Nat := if quota = -1 then 1000000000 - w else quota.toInt.toNat * fields.toInt.toNat - w
theorem lN_neg {a b : Nat} (h : a < b) (hb : b < 2 ^ 62) : (lN a - lN b).toInt = (a : Int) - b := by
  rw [Int64.toInt_sub, pk_lT (by omega), pk_lT (by omega)]
  exact Int.bmod_eq_of_le (by omega) (by omega)
theorem q_rng {x : Int32} (h : rng (-1) 10000 x) (hn : ¬ x = -1) : ∃ q : Nat, x = nI q ∧ q ≤ 10000 ∧ x.toInt.toNat = q := by
  have : ¬ x.toInt = -1 := by
    intro e
    apply hn
    rw [← Int32.toInt_inj, e]
    decide
  obtain ⟨h1, h2⟩ := h
  refine ⟨x.toInt.toNat, ?_, by omega, rfl⟩
  rw [← Int32.toInt_inj, nI_toInt (by omega)]
  omega
theorem with_N {quota : Int32} {fi wh w : Nat} (hq : rng (-1) 10000 quota) (hf : fi ≤ 50) (hw : w ≤ 1000000) (hh : wh ≤ 1000) : withF quota (nI fi) (lN wh) (lN w) = lN (min wh (rq quota (nI fi) w)) := by
  unfold withF rq
  by_cases e : quota = -1
  · rw [if_pos e, if_pos e, Nat.min_eq_left (by omega)]
  · obtain ⟨q, q1, q2, q3⟩ := q_rng hq e
    rw [if_neg e, if_neg e, q3, q1, nI_l (by omega), nI_l (by omega), lN_mul, nI_toInt (by omega), Int.toNat_natCast]
    have hm : q * fi ≤ 10000 * 50 := Nat.mul_le_mul q2 hf
    generalize q * fi = z at *
    by_cases c : w ≤ z
    · rw [lN_sub c, lmin1 (by omega) (by omega)]
      rw [if_neg (show ¬ lN (min (z - w) wh) < 0 by
        rw [show (0 : Int64) = lN 0 from rfl, pk_lLT (by omega) (by omega)]
        omega)]
      rw [Nat.min_comm]
    · have hn := lN_neg (a := z) (b := w) (by omega) (by omega)
      have l1 : lN z - lN w < lN wh := by
        rw [Int64.lt_iff_toInt_lt, hn, pk_lT (by omega)]
        omega
      have l2 : lN z - lN w < 0 := by
        rw [Int64.lt_iff_toInt_lt, hn, show (0 : Int64).toInt = 0 by decide]
        omega
      rw [if_pos l1, if_pos l2, show z - w = 0 by omega, Nat.min_zero]
      rfl
def Wk (quota : Int32) (S X Y : St) (m i : Nat) : Prop := ∃ w c r, X.2.2.2.1 0 i = lN w ∧ Y.2.2.2.1 8 i = lN w ∧ X.2.2.2.1 2 i = lN c ∧ Y.2.2.2.1 10 i = lN c ∧ X.2.2.2.1 3 i = lN r ∧ Y.2.2.2.1 12 i = lN r ∧ Y.2.2.2.1 13 i = lN (rq quota (S.2.1 26 i) w) ∧ w ≤ 1000 * m ∧ c ≤ 10000000 * m ∧ r ≤ 10000000 * m
theorem ba_res {day : Int32} {nf nb b : Nat} {S X0 Y0 : St} (hF : RF S nf) (hK : RK S nf nb) (hT : RTm S b) (hX : X0.2.1 = S.2.1) (hX1 : X0.1 = S.1) (hY : Y0.2.1 = S.2.1) (h0 : ∀ i, i < nf → Wk (S.1 26) S X0 Y0 0 i) : ∀ m, m ≤ nb → Fr [] [] [] [0, 2, 3] (it (baB b day) m X0) X0 ∧ Fr [] [] [] [8, 10, 12, 13] (it (rkB2 day) m Y0) Y0 ∧ ∀ i, i < nf → Wk (S.1 26) S (it (baB b day) m X0) (it (rkB2 day) m Y0) m i
  | 0, _ => by
    rw [it_0, it_0]
    exact ⟨Fr.rf, Fr.rf, h0⟩
  | m + 1, hm => by
    obtain ⟨i1, i2, i3⟩ := ba_res (day := day) hF hK hT hX hX1 hY h0 m (by omega)
    obtain ⟨f1, f2, f3, f4, f5, f6, f7⟩ := hF
    obtain ⟨k1, k2, k3, k4, k5, k6, k7, k8, k9⟩ := hK
    obtain ⟨⟨f, hf, ef⟩, rw', rg⟩ := k9 m (by omega)
    obtain ⟨wh, ew, w1, w2⟩ := rng_nI (lo := 1) (hi := 1000) rw' (by omega)
    obtain ⟨gd, eg, g1, g2⟩ := rng_nI (lo := 0) (hi := 4) rg (by omega)
    obtain ⟨t1, t2, t3, t4, t5⟩ := hT
    obtain ⟨p1, p2⟩ := t1 gd (by omega)
    obtain ⟨pr, ep, pr1, pr2⟩ := rng_nI (lo := 0) (hi := 10000) p2 (by omega)
    obtain ⟨fi, efi, fi1, fi2⟩ := rng_nI (lo := 1) (hi := 50) (f7 f hf).2.2 (by omega)
    rw [it_s, it_s]
    have hx := (eqB.it (baB_eq b day) m X0).2.1.trans hX
    have hx1 := (eqB.it (baB_eq b day) m X0).1.trans hX1
    have hy := (eqB.it (rkB2_eq day) m Y0).2.1.trans hY
    generalize it (baB b day) m X0 = X at *
    generalize it (rkB2 day) m Y0 = Y at *
    have hcl : (nI f).toNatClampNeg = f := nI_clamp (by omega)
    have hcg : (nI gd).toNatClampNeg = gd := nI_clamp (by omega)
    obtain ⟨w, c, r, x1, x2, x3, x4, x5, x6, x7, x8, x9, x10⟩ := i3 f hf
    unfold baB rkB2
    rw [hx, hx1, hy, k4, k5, k6, k7, t3, f6, ef, ew, eg, hcl, hcg, p1, ep, efi, nI_l (n := wh) (by omega), nI_l (n := pr) (by omega), x1, x7]
    by_cases q : S.2.1 33 m ≤ day
    · have eV : wiM (lN (rq (S.1 26) (S.2.1 26 f) w)) (lN wh) = lN (min wh (rq (S.1 26) (nI fi) w)) := by
        rw [efi]
        unfold wiM
        refine lmin2 ?_ (by omega)
        unfold rq
        split
        · omega
        · rename_i e
          obtain ⟨z, z1, z2, z3⟩ := q_rng t4 e
          rw [z3, nI_toInt (by omega), Int.toNat_natCast]
          have : z * fi ≤ 10000 * 50 := Nat.mul_le_mul z2 fi2
          omega
      rw [if_pos q, if_pos q, with_N t4 fi2 (by omega) w2, eV]
      have hrq : rq (S.1 26) (nI fi) (w + wh) = rq (S.1 26) (nI fi) w - min wh (rq (S.1 26) (nI fi) w) := by
        unfold rq
        split <;> omega
      have hv : min wh (rq (S.1 26) (nI fi) w) ≤ wh := Nat.min_le_left _ _
      have hvq : min wh (rq (S.1 26) (nI fi) w) ≤ rq (S.1 26) (nI fi) w := Nat.min_le_right _ _
      generalize min wh (rq (S.1 26) (nI fi) w) = v at *
      have b1 : v * pr ≤ 1000 * 10000 := Nat.mul_le_mul (by omega) pr2
      have b2 : (wh - v) * pr ≤ 1000 * 10000 := Nat.mul_le_mul (by omega) pr2
      unfold baB3 baB2 baB1 rk2
      dsimp only
      refine ⟨Fr.B (by decide) (Fr.B (by decide) (Fr.B (by decide) i1)), Fr.B (by decide) (Fr.B (by decide) (Fr.B (by decide) (Fr.B (by decide) i2))), ?_⟩
      intro i hi
      by_cases z : i = f
      · subst z
        refine ⟨w + wh, c + v * pr, r + (wh - v) * pr, ?_, ?_, ?_, ?_, ?_, ?_, ?_, by omega, by omega, by omega⟩
        · show vp_updL (X.2.2.2.1 0) i (X.2.2.2.1 0 i + lN wh) i = _
          rw [updL_eq, x1, lN_add]
        · show vp_updL (Y.2.2.2.1 8) i (Y.2.2.2.1 8 i + lN wh) i = _
          rw [updL_eq, x2, lN_add]
        · show vp_updL (X.2.2.2.1 2) i (X.2.2.2.1 2 i + lN v * lN pr) i = _
          rw [updL_eq, x3, lN_mul, lN_add]
        · show vp_updL (Y.2.2.2.1 10) i (Y.2.2.2.1 10 i + lN v * lN pr) i = _
          rw [updL_eq, x4, lN_mul, lN_add]
        · show vp_updL (X.2.2.2.1 3) i (X.2.2.2.1 3 i + (lN wh - lN v) * lN pr) i = _
          rw [updL_eq, x5, lN_sub hv, lN_mul, lN_add]
        · show vp_updL (Y.2.2.2.1 12) i (Y.2.2.2.1 12 i + (lN wh - lN v) * lN pr) i = _
          rw [updL_eq, x6, lN_sub hv, lN_mul, lN_add]
        · show vp_updL (Y.2.2.2.1 13) i (Y.2.2.2.1 13 i - lN v) i = _
          rw [updL_eq, x7, efi, lN_sub hvq, hrq]
      · obtain ⟨w', c', r', y1, y2, y3, y4, y5, y6, y7, y8, y9, y10⟩ := i3 i hi
        refine ⟨w', c', r', ?_, ?_, ?_, ?_, ?_, ?_, ?_, by omega, by omega, by omega⟩
        · exact (updL_ne z).trans y1
        · exact (updL_ne z).trans y2
        · exact (updL_ne z).trans y3
        · exact (updL_ne z).trans y4
        · exact (updL_ne z).trans y5
        · exact (updL_ne z).trans y6
        · exact (updL_ne z).trans y7
    · rw [if_neg q, if_neg q]
      refine ⟨i1, i2, ?_⟩
      intro i hi
      obtain ⟨w', c', r', y1, y2, y3, y4, y5, y6, y7, y8, y9, y10⟩ := i3 i hi
      exact ⟨w', c', r', y1, y2, y3, y4, y5, y6, y7, by omega, by omega, by omega⟩
end BKE
