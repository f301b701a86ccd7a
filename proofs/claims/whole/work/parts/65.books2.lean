section BKF
theorem z_res {nf b : Nat} {S Y0 : St} (hF : RF S nf) (hT : RTm S b) (hY : Y0.2.1 = S.2.1) (hY1 : Y0.1 26 = S.1 26) : ∀ m, m ≤ nf → Fr [] [] [] [8, 9, 10, 12, 13] (it rkB0 m Y0) Y0 ∧ ∀ i, i < m → (it rkB0 m Y0).2.2.2.1 8 i = 0 ∧ (it rkB0 m Y0).2.2.2.1 9 i = 0 ∧ (it rkB0 m Y0).2.2.2.1 10 i = 0 ∧ (it rkB0 m Y0).2.2.2.1 12 i = 0 ∧ (it rkB0 m Y0).2.2.2.1 13 i = lN (rq (S.1 26) (S.2.1 26 i) 0)
  | 0, _ => by
    rw [it_0]
    exact ⟨Fr.rf, fun i hi => absurd hi (by omega)⟩
  | m + 1, hm => by
    obtain ⟨i1, i2⟩ := z_res hF hT hY hY1 m (by omega)
    obtain ⟨fi, efi, fi1, fi2⟩ := rng_nI (lo := 1) (hi := 50) (hF.2.2.2.2.2.2 m (by omega)).2.2 (by omega)
    rw [it_s]
    have hy := (eqB.it rkB0_eq m Y0).2.1.trans hY
    have hy1 : (it rkB0 m Y0).1 26 = S.1 26 := (congrFun (eqB.it rkB0_eq m Y0).1 _).trans hY1
    generalize it rkB0 m Y0 = Y at *
    unfold rkB0
    dsimp only
    refine ⟨Fr.B (by decide) (Fr.B (by decide) (Fr.B (by decide) (Fr.B (by decide) (Fr.B (by decide) i1)))), ?_⟩
    intro i hi
    rcases lt_split hi with hi | rfl
    · obtain ⟨a1, a2, a3, a4, a5⟩ := i2 i hi
      have z : i ≠ m := by omega
      exact ⟨(updL_ne z).trans a1, (updL_ne z).trans a2, (updL_ne z).trans a3, (updL_ne z).trans a4, (updL_ne z).trans a5⟩
    · refine ⟨updL_eq, updL_eq, updL_eq, updL_eq, ?_⟩
      show vp_updL (Y.2.2.2.1 13) i (if Y.1 26 = -1 then 1000000000 else (Y.1 26).toInt64 * (Y.2.1 26 i).toInt64) i = _
      rw [updL_eq, hy, hy1]
      unfold rq
      by_cases e : S.1 26 = -1
      · rw [if_pos e, if_pos e]
        rfl
      · obtain ⟨q, q1, q2, q3⟩ := q_rng hT.2.2.2.1 e
        rw [if_neg e, if_neg e, q3, q1, efi, nI_l (by omega), nI_l (by omega), lN_mul, nI_toInt (by omega), Int.toNat_natCast, Nat.sub_zero]
def shN (S : St) (i v : Nat) : Nat := v * (S.2.1 35 i).toInt.toNat / (S.2.1 36 i).toInt.toNat
theorem sh_pt {S X Y : St} {b i : Nat} {v : Int64} (hT : RTm S b) (hi : i < 4) (hX : X.2.1 = S.2.1) (hY : Y.2.1 = S.2.1) : shareF X b i v = partM Y i v := by
  obtain ⟨a1, a2, a3, a4, a5⟩ := hT.2.1 i hi
  unfold shareF partM
  rw [hX, hY, a1, a2, if_pos]
  rw [Int32.le_iff_toInt_le, show (1 : Int32).toInt = 1 by decide]
  exact a5.1
theorem pt_N {S Y : St} {b i v : Nat} (hT : RTm S b) (hi : i < 4) (hY : Y.2.1 = S.2.1) (hv : v < 2 ^ 40) : partM Y i (lN v) = lN (shN S i v) ∧ shN S i v ≤ v := by
  obtain ⟨a1, a2, a3, a4, a5⟩ := hT.2.1 i hi
  obtain ⟨lo, e1, l1, l2⟩ := rng_nI (lo := 1) (hi := 10000) a5 (by omega)
  have h6 : rng (0 : Nat) (10000 : Nat) (S.2.1 35 i) := ⟨a3, Int.le_trans a4 a5.2⟩
  obtain ⟨up, e2, u1, u2⟩ := rng_nI (lo := 0) (hi := 10000) h6 (by omega)
  have hul := a4
  rw [e1, e2, nI_toInt (by omega), nI_toInt (by omega)] at hul
  unfold partM shN
  rw [hY, e1, e2]
  rw [nI_toInt (by omega), nI_toInt (by omega)]
  rw [Int.toNat_natCast, Int.toNat_natCast, nI_l (by omega), nI_l (by omega), lN_mul]
  have hm : v * up ≤ 2 ^ 40 * 10000 := Nat.mul_le_mul (by omega) u2
  have hm2 : v * up ≤ v * lo := Nat.mul_le_mul_left v (by omega)
  refine ⟨pk_lDiv (by omega) (by omega) (by omega), ?_⟩
  exact Nat.div_le_of_le_mul (by rw [Nat.mul_comm lo v]; exact hm2)
def Pn (X Y : St) (i : Nat) : Prop := ∃ w e c r, X.2.2.2.1 0 i = lN w ∧ Y.2.2.2.1 8 i = lN w ∧ X.2.2.2.1 1 i = lN e ∧ Y.2.2.2.1 9 i = lN e ∧ X.2.2.2.1 2 i = lN c ∧ Y.2.2.2.1 10 i = lN c ∧ X.2.2.2.1 3 i = lN r ∧ Y.2.2.2.1 12 i = lN r ∧ e ≤ 20000000 ∧ c ≤ 3000000000 ∧ r ≤ 3000000000 ∧ w ≤ 300000
def Dn (S X Y : St) (i : Nat) : Prop := ∃ w e c o, X.2.2.2.1 0 i = lN w ∧ Y.2.2.2.1 8 i = lN w ∧ X.2.2.2.1 1 i = lN e ∧ Y.2.2.2.1 9 i = lN e ∧ X.2.2.2.1 2 i = lN c ∧ Y.2.2.2.1 10 i = lN c ∧ X.2.2.2.1 4 i = lN o ∧ Y.2.2.2.1 11 i = lN o ∧ Y.2.2.2.1 14 i = lN (shN S 2 (c - o)) ∧ Y.2.2.2.1 16 i = lN (e - o) ∧ o ≤ e ∧ o ≤ c ∧ e ≤ 20000000 ∧ c ≤ 6000000000 ∧ w ≤ 300000
theorem dr_res {nf b : Nat} {S X0 Y0 : St} (hT : RTm S b) (hX : X0.2.1 = S.2.1) (hY : Y0.2.1 = S.2.1) (h0 : ∀ i, i < nf → Pn X0 Y0 i) : ∀ m, m ≤ nf → (∀ i, i < m → Dn S (it (drB b) m X0) (it rkB3 m Y0) i) ∧ (∀ i, m ≤ i → i < nf → Pn (it (drB b) m X0) (it rkB3 m Y0) i)
  | 0, _ => by
    rw [it_0, it_0]
    exact ⟨fun i hi => absurd hi (by omega), fun i _ hi => h0 i hi⟩
  | m + 1, hm => by
    obtain ⟨i1, i2⟩ := dr_res hT hX hY h0 m (by omega)
    rw [it_s, it_s]
    have hx := (eqB.it (drB_eq b) m X0).2.1.trans hX
    have hy := (eqB.it rkB3_eq m Y0).2.1.trans hY
    generalize it (drB b) m X0 = X at *
    generalize it rkB3 m Y0 = Y at *
    obtain ⟨w, e, c, r, x1, x2, x3, x4, x5, x6, x7, x8, x9, x10, x11, x12⟩ := i2 m (Nat.le_refl _) (by omega)
    have s0 := pt_N (Y := Y) (v := r) hT (show 0 < 4 by omega) hy (by omega)
    have s1 := pt_N (Y := Y) (v := c + shN S 0 r) hT (show 1 < 4 by omega) hy (by omega)
    have eX0 : shareF X b 0 (lN r) = lN (shN S 0 r) := (sh_pt hT (by omega) hx hy).trans s0.1
    have eX1 : ∀ X' : St, X'.2.1 = X.2.1 → shareF X' b 1 (lN (c + shN S 0 r)) = lN (shN S 1 (c + shN S 0 r)) := fun X' h' => (sh_pt hT (by omega) (h'.trans hx) hy).trans s1.1
    have eY1 : ∀ Y' : St, Y'.2.1 = Y.2.1 → partM Y' 1 (lN (c + shN S 0 r)) = lN (shN S 1 (c + shN S 0 r)) := fun Y' h' => (pt_N (Y := Y') (v := c + shN S 0 r) hT (by omega) (h'.trans hy) (by omega)).1
    have hs0 := s0.2
    have hs1 := s1.2
    refine ⟨?_, ?_⟩
    · intro i hi
      rcases lt_split hi with hi | rfl
      · obtain ⟨w', e', c', o', y1, y2, y3, y4, y5, y6, y7, y8, y9, y10, y11⟩ := i1 i hi
        have z : i ≠ m := by omega
        exact ⟨w', e', c', o', y1, y2, y3, y4, (updL_ne z).trans y5, (updL_ne z).trans y6, (updL_ne z).trans y7, (updL_ne z).trans y8, (updL_ne z).trans y9, (updL_ne z).trans y10, y11⟩
      · have eC : (drB b i X).2.2.2.1 2 i = lN (c + shN S 0 r) := by
          show vp_updL (X.2.2.2.1 2) i (X.2.2.2.1 2 i + shareF X b 0 (X.2.2.2.1 3 i)) i = _
          rw [updL_eq, x5, x7, eX0, lN_add]
        have eM : (rkB3 i Y).2.2.2.1 10 i = lN (c + shN S 0 r) := by
          show vp_updL (Y.2.2.2.1 10) i (Y.2.2.2.1 10 i + partM Y 0 (Y.2.2.2.1 12 i)) i = _
          rw [updL_eq, x6, x8, s0.1, lN_add]
        have eO : (drB b i X).2.2.2.1 4 i = lN (min e (shN S 1 (c + shN S 0 r))) := by
          have e0 : (setB X 2 (vp_updL (X.2.2.2.1 2) i (X.2.2.2.1 2 i + shareF X b 0 (X.2.2.2.1 3 i)))).2.2.2.1 2 i = lN (c + shN S 0 r) := eC
          show vp_updL (X.2.2.2.1 4) i (if X.2.2.2.1 1 i < shareF (setB X 2 (vp_updL (X.2.2.2.1 2) i (X.2.2.2.1 2 i + shareF X b 0 (X.2.2.2.1 3 i)))) b 1 ((setB X 2 (vp_updL (X.2.2.2.1 2) i (X.2.2.2.1 2 i + shareF X b 0 (X.2.2.2.1 3 i)))).2.2.2.1 2 i) then X.2.2.2.1 1 i else shareF (setB X 2 (vp_updL (X.2.2.2.1 2) i (X.2.2.2.1 2 i + shareF X b 0 (X.2.2.2.1 3 i)))) b 1 ((setB X 2 (vp_updL (X.2.2.2.1 2) i (X.2.2.2.1 2 i + shareF X b 0 (X.2.2.2.1 3 i)))).2.2.2.1 2 i)) i = _
          rw [updL_eq, e0, eX1 (setB X 2 (vp_updL (X.2.2.2.1 2) i (X.2.2.2.1 2 i + shareF X b 0 (X.2.2.2.1 3 i)))) rfl, x3, lmin1 (by omega) (by omega)]
        have eN : (rkB3 i Y).2.2.2.1 11 i = lN (min e (shN S 1 (c + shN S 0 r))) := by
          have e0 : (setB Y 10 (vp_updL (Y.2.2.2.1 10) i (Y.2.2.2.1 10 i + partM Y 0 (Y.2.2.2.1 12 i)))).2.2.2.1 10 i = lN (c + shN S 0 r) := eM
          show vp_updL (Y.2.2.2.1 11) i (if Y.2.2.2.1 9 i ≤ partM (setB Y 10 (vp_updL (Y.2.2.2.1 10) i (Y.2.2.2.1 10 i + partM Y 0 (Y.2.2.2.1 12 i)))) 1 ((setB Y 10 (vp_updL (Y.2.2.2.1 10) i (Y.2.2.2.1 10 i + partM Y 0 (Y.2.2.2.1 12 i)))).2.2.2.1 10 i) then Y.2.2.2.1 9 i else partM (setB Y 10 (vp_updL (Y.2.2.2.1 10) i (Y.2.2.2.1 10 i + partM Y 0 (Y.2.2.2.1 12 i)))) 1 ((setB Y 10 (vp_updL (Y.2.2.2.1 10) i (Y.2.2.2.1 10 i + partM Y 0 (Y.2.2.2.1 12 i)))).2.2.2.1 10 i)) i = _
          rw [updL_eq, e0, eY1 (setB Y 10 (vp_updL (Y.2.2.2.1 10) i (Y.2.2.2.1 10 i + partM Y 0 (Y.2.2.2.1 12 i)))) rfl, x4, lmin2 (by omega) (by omega), Nat.min_comm]
        have eL : (rkB3 i Y).2.2.2.1 16 i = (rkB3 i Y).2.2.2.1 9 i - (rkB3 i Y).2.2.2.1 11 i := updL_eq
        have eK : ∃ Z : St, Z.2.1 = Y.2.1 ∧ (rkB3 i Y).2.2.2.1 14 i = partM Z 2 ((rkB3 i Y).2.2.2.1 10 i - (rkB3 i Y).2.2.2.1 11 i) := ⟨_, rfl, updL_eq⟩
        have eW : (rkB3 i Y).2.2.2.1 9 i = lN e := x4
        obtain ⟨Z, z1, z2⟩ := eK
        have ho : min e (shN S 1 (c + shN S 0 r)) ≤ c + shN S 0 r := by omega
        have hoe : min e (shN S 1 (c + shN S 0 r)) ≤ e := by omega
        refine ⟨w, e, c + shN S 0 r, min e (shN S 1 (c + shN S 0 r)), x1, x2, x3, x4, eC, eM, eO, eN, ?_, ?_, hoe, ho, x9, by omega, x12⟩
        · rw [z2, eM, eN, lN_sub ho]
          exact (pt_N (Y := Z) hT (show 2 < 4 by omega) (z1.trans hy) (by omega)).1
        · rw [eL, eW, eN, lN_sub hoe]
    · intro i hmi hi
      obtain ⟨w', e', c', r', y1, y2, y3, y4, y5, y6, y7, y8, y9⟩ := i2 i (by omega) hi
      have z : i ≠ m := by omega
      exact ⟨w', e', c', r', y1, y2, y3, y4, (updL_ne z).trans y5, (updL_ne z).trans y6, y7, y8, y9⟩
/-- the accounts of a day -/
theorem draw_res {day : Int32} {nf nc nb b : Nat} {S T : St} (hF : RF S nf) (hC : RC S nf nc) (hK : RK S nf nb) (hT : RTm S b) (hY : T.2.1 = S.2.1) (hY1 : T.1 26 = S.1 26) : ∀ i, i < nf → Dn S (drawS b day nf nc nb S) (rkS day nf nc nb T) i := by
  unfold drawS rkS
  have c0 := clearS_eq S
  obtain ⟨z1, z2⟩ := z_res hF hT hY hY1 nf (Nat.le_refl _)
  have zy := (eqB.it rkB0_eq nf T).2.1.trans hY
  have k0 : ∀ i, i < 40 → (clearS S).2.2.2.1 0 i = 0 ∧ (clearS S).2.2.2.1 1 i = 0 ∧ (clearS S).2.2.2.1 2 i = 0 ∧ (clearS S).2.2.2.1 3 i = 0 := fun i hi => ⟨fill_at' hi, fill_at' hi, fill_at' hi, fill_at' hi⟩
  generalize clearS S = X0 at *
  generalize it rkB0 nf T = Y0 at *
  have hn := hF.1
  obtain ⟨c1, c2, c3⟩ := cr_res (T := T) (day := day) hn hC c0.2.1 zy (fun i hi => ⟨(k0 i (by omega)).2.1, (z2 i hi).2.1⟩) nc (Nat.le_refl _)
  have e1 := (eqB.it (crB_eq day) nc X0).tr c0
  have e2 := (eqB.it (rkB1_eq day) nc Y0).2.1.trans zy
  generalize it (crB day) nc X0 = X1 at *
  generalize it (rkB1 day) nc Y0 = Y1 at *
  obtain ⟨b1, b2, b3⟩ := ba_res (day := day) (b := b) hF hK hT (X0 := X1) (Y0 := Y1) e1.2.1 e1.1 e2 (fun i hi => by
    obtain ⟨a1, a2, a3, a4⟩ := k0 i (by omega)
    obtain ⟨d1, d2, d3, d4, d5⟩ := z2 i hi
    refine ⟨0, 0, 0, ?_, ?_, ?_, ?_, ?_, ?_, ?_, by omega, by omega, by omega⟩
    · rw [c1.2.2.2.1 0 (by decide)]; exact a1
    · rw [c2.2.2.2.1 8 (by decide)]; exact d1
    · rw [c1.2.2.2.1 2 (by decide)]; exact a3
    · rw [c2.2.2.2.1 10 (by decide)]; exact d3
    · rw [c1.2.2.2.1 3 (by decide)]; exact a4
    · rw [c2.2.2.2.1 12 (by decide)]; exact d4
    · rw [c2.2.2.2.1 13 (by decide)]; exact d5) nb (Nat.le_refl _)
  have e3 := (eqB.it (baB_eq b day) nb X1).2.1.trans e1.2.1
  have e4 := (eqB.it (rkB2_eq day) nb Y1).2.1.trans e2
  generalize it (baB b day) nb X1 = X2 at *
  generalize it (rkB2 day) nb Y1 = Y2 at *
  have hnc := hC.1
  have hnb := hK.1
  intro i hi
  exact (dr_res (b := b) hT e3 e4 (fun i hi => by
    obtain ⟨w, c, r, x1, x2, x3, x4, x5, x6, x7, x8, x9, x10⟩ := b3 i hi
    obtain ⟨e, q1, q2, q3⟩ := c3 i hi
    refine ⟨w, e, c, r, x1, x2, ?_, ?_, x3, x4, x5, x6, by omega, by omega, by omega, by omega⟩
    · rw [b1.2.2.2.1 1 (by decide)]; exact q1
    · rw [b2.2.2.2.1 9 (by decide)]; exact q2) nf (Nat.le_refl _)).1 i hi
end BKF
