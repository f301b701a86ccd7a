section PLC
theorem apF_spec (pl : Nat → Int32) (p : Int32) : ∀ r k, (∀ j, k ≤ j → j < apF pl p r k → (pl j).toInt < p.toInt) ∧ (apF pl p r k < k + r → p.toInt ≤ (pl (apF pl p r k)).toInt)
  | 0, k => by
    unfold apF
    exact ⟨fun j a b => by omega, fun q => by omega⟩
  | r + 1, k => by
    unfold apF
    by_cases q : p ≤ pl k
    · rw [if_pos q]
      rw [Int32.le_iff_toInt_le] at q
      exact ⟨fun j a b => by omega, fun _ => q⟩
    · rw [if_neg q]
      rw [Int32.le_iff_toInt_le] at q
      obtain ⟨h1, h2⟩ := apF_spec pl p r (k + 1)
      refine ⟨fun j a b => ?_, fun z => h2 (by omega)⟩
      rcases Nat.lt_or_ge k j with w | w
      · exact h1 j w b
      · have : j = k := by omega
        rw [this]
        omega
def PlS (n : Nat) (pm : Nat → Int32) : Prop := (∀ k, k < n → rng 0 1000 (pm k)) ∧ (∀ k, k + 1 < n → (pm k).toInt < (pm (k + 1)).toInt)
theorem insM_srt {n k : Nat} {p : Int32} {X : St} (hk : k ≤ n) (h : PlS n (X.2.1 46)) (hp : rng 0 1000 p) (h1 : ∀ j, j < k → (X.2.1 46 j).toInt < p.toInt) (h2 : k < n → p.toInt < (X.2.1 46 k).toInt) : PlS (n + 1) ((insM n k p X).2.1 46) := by
  constructor
  · intro j hj
    rw [insM_get hk]
    by_cases c1 : j = k
    · rw [if_pos c1]
      exact hp
    · rw [if_neg c1]
      by_cases c2 : k < j ∧ j ≤ n
      · rw [if_pos c2]
        exact h.1 _ (by omega)
      · rw [if_neg c2]
        exact h.1 _ (by omega)
  · intro j hj
    rw [insM_get hk, insM_get hk]
    by_cases c1 : j + 1 < k
    · rw [if_neg (show ¬ j = k by omega), if_neg (show ¬ (k < j ∧ j ≤ n) by omega), if_neg (show ¬ j + 1 = k by omega), if_neg (show ¬ (k < j + 1 ∧ j + 1 ≤ n) by omega)]
      exact h.2 j (by omega)
    · by_cases c2 : j + 1 = k
      · rw [if_neg (show ¬ j = k by omega), if_neg (show ¬ (k < j ∧ j ≤ n) by omega), if_pos c2]
        exact h1 j (by omega)
      · by_cases c3 : j = k
        · rw [if_pos c3, if_neg c2, if_pos (show k < j + 1 ∧ j + 1 ≤ n by omega), show j + 1 - 1 = k by omega]
          exact h2 (by omega)
        · rw [if_neg c3, if_pos (show k < j ∧ j ≤ n by omega), if_neg c2, if_pos (show k < j + 1 ∧ j + 1 ≤ n by omega)]
          have := h.2 (j - 1) (by omega)
          rw [show j - 1 + 1 = j by omega] at this
          rw [show j + 1 - 1 = j by omega]
          exact this
theorem addP_srt {n : Nat} {p : Int32} {X : St} (h : PlS n (X.2.1 46)) (hp : rng 0 1000 p) : PlS (addPc n p X) ((addP n p X).2.1 46) ∧ (∀ b, b < addPc n p X → (addP n p X).2.1 46 b = p ∨ ∃ c, c < n ∧ X.2.1 46 c = (addP n p X).2.1 46 b) := by
  have hk := apF_le (X.2.1 46) p n 0
  obtain ⟨s1, s2⟩ := apF_spec (X.2.1 46) p n 0
  unfold addP addPc
  dsimp only
  generalize apF (X.2.1 46) p n 0 = k at *
  have mem : ∀ b, b < n + 1 → (insM n k p X).2.1 46 b = p ∨ ∃ c, c < n ∧ X.2.1 46 c = (insM n k p X).2.1 46 b := by
    intro b hb
    rw [insM_get (by omega)]
    by_cases c1 : b = k
    · exact Or.inl (if_pos c1)
    · rw [if_neg c1]
      by_cases c2 : k < b ∧ b ≤ n
      · rw [if_pos c2]
        exact Or.inr ⟨b - 1, by omega, rfl⟩
      · rw [if_neg c2]
        exact Or.inr ⟨b, by omega, rfl⟩
  by_cases q1 : n ≤ k
  · rw [if_pos q1, if_pos q1]
    exact ⟨insM_srt (by omega) h hp (fun j hj => s1 j (by omega) hj) (fun z => by omega), mem⟩
  · rw [if_neg q1, if_neg q1]
    by_cases q2 : X.2.1 46 k = p
    · rw [if_pos q2, if_pos q2]
      exact ⟨h, fun b hb => Or.inr ⟨b, hb, rfl⟩⟩
    · rw [if_neg q2, if_neg q2]
      refine ⟨insM_srt (by omega) h hp (fun j hj => s1 j (by omega) hj) (fun z => ?_), mem⟩
      have w := s2 (by omega)
      have : ¬ (X.2.1 46 k).toInt = p.toInt := fun z => q2 (Int32.toInt_inj.mp z)
      omega
theorem apB_srt {bg : Int32} {nv : Nat} : ∀ (k : Nat) (q : St × Nat), k ≤ nv → (∀ j, j < nv → rng 0 1000 (q.1.2.1 25 (q.1.2.1 44 j).toNatClampNeg)) → PlS q.2 (q.1.2.1 46) → (∀ b, b < q.2 → q.1.2.1 46 b = bg) → PlS (it apB k q).2 ((it apB k q).1.2.1 46) ∧ (∀ b, b < (it apB k q).2 → (it apB k q).1.2.1 46 b = bg ∨ ∃ j, j < k ∧ (it apB k q).1.2.1 46 b = q.1.2.1 25 (q.1.2.1 44 j).toNatClampNeg) ∧ (∀ j, j < k → ∃ b, b < (it apB k q).2 ∧ (it apB k q).1.2.1 46 b = q.1.2.1 25 (q.1.2.1 44 j).toNatClampNeg)
  | 0, q, _, _, h, hb => ⟨h, fun b z => Or.inl (hb b z), fun j z => by omega⟩
  | k + 1, q, hk, hr, h, hb => by
    obtain ⟨i1, i2, i3⟩ := apB_srt (bg := bg) (nv := nv) k q (by omega) hr h hb
    have e := apB_eqs k q
    have e1 : (it apB k q).1.2.1 25 = q.1.2.1 25 := e.2.1 _ (by decide)
    have e2 : (it apB k q).1.2.1 44 = q.1.2.1 44 := e.2.1 _ (by decide)
    rw [it_s]
    generalize it apB k q = z at *
    unfold apB
    dsimp only
    rw [e1, e2]
    obtain ⟨a1, a2⟩ := addP_srt (X := z.1) i1 (hr k (by omega))
    refine ⟨a1, ?_, ?_⟩
    · intro b hb'
      rcases a2 b hb' with w | ⟨c, hc, w⟩
      · exact Or.inr ⟨k, by omega, w⟩
      · rw [← w]
        rcases i2 c hc with y | ⟨j, hj, y⟩
        · exact Or.inl y
        · exact Or.inr ⟨j, by omega, y⟩
    · intro j hj
      rcases lt_split hj with w | w
      · obtain ⟨b, hb', y⟩ := i3 j w
        exact addP_mem _ _ (Or.inr ⟨b, hb', y⟩)
      · rw [w]
        exact addP_mem _ _ (Or.inl rfl)
/-- the places of the model's walk -/
def PmW (bg : Int32) (nv : Nat) (S : St) : Nat → Int32 := (it apB nv (pl0 bg S)).1.2.1 46
def VpR (nv : Nat) (S : St) : Prop := ∀ j, j < nv → rng 0 1000 (S.2.1 25 (S.2.1 44 j).toNatClampNeg)
theorem plc_f {bg : Int32} {nv : Nat} {S : St} (hb : rng 0 1000 bg) (hV : Vm S nv) (hr : VpR nv S) : RdM (plN bg nv S) (PmW bg nv S) ∧ (∀ b, b < plN bg nv S → PmW bg nv S b = bg ∨ ∃ j, j < nv ∧ PmW bg nv S b = S.2.1 25 (S.2.1 44 j).toNatClampNeg) ∧ (∀ j, j < nv → ∃ b, b < plN bg nv S ∧ PmW bg nv S b = S.2.1 25 (S.2.1 44 j).toNatClampNeg) ∧ fbF (PmW bg nv S) bg (plN bg nv S) 0 < plN bg nv S ∧ PmW bg nv S (fbF (PmW bg nv S) bg (plN bg nv S) 0) = bg := by
  have hW := walkM_W (bg := bg) hV
  have e0 : eqPl (pl0 bg S).1 (setI S 38 0) := addP_eq 0 bg (setI S 38 0)
  have e1 : (pl0 bg S).1.2.1 25 = S.2.1 25 := e0.2.1 _ (by decide)
  have e2 : (pl0 bg S).1.2.1 44 = S.2.1 44 := e0.2.1 _ (by decide)
  have hc0 : addPc 0 bg (setI S 38 0) = 1 := by
    unfold addPc
    dsimp only
    rw [if_pos (Nat.zero_le _)]
  have hmem0 : ∃ b, b < (pl0 bg S).2 ∧ (pl0 bg S).1.2.1 46 b = bg := by
    have := addP_mem (n := 0) bg (setI S 38 0) (q := bg) (Or.inl rfl)
    rw [hc0] at this
    exact this
  have h0 := addP_cnt (n := 0) bg (setI S 38 0) (by rw [nI_0]; rfl)
  rw [hc0] at h0
  obtain ⟨s1, s2⟩ := addP_srt (n := 0) (p := bg) (X := setI S 38 0) ⟨fun k z => by omega, fun k z => by omega⟩ hb
  rw [hc0] at s1 s2
  have s3 : ∀ b, b < (pl0 bg S).2 → (pl0 bg S).1.2.1 46 b = bg := by
    intro b hb'
    rcases s2 b hb' with w | ⟨c, hc, _⟩
    · exact w
    · omega
  have hr' : ∀ j, j < nv → rng 0 1000 ((pl0 bg S).1.2.1 25 ((pl0 bg S).1.2.1 44 j).toNatClampNeg) := by
    rw [e1, e2]
    exact hr
  obtain ⟨i1, i2, i3⟩ := apB_srt (bg := bg) (nv := nv) nv (pl0 bg S) (Nat.le_refl _) hr' s1 s3
  obtain ⟨c1, c2, c3, c4⟩ := apB_cnt (bg := bg) nv (pl0 bg S) h0.1 hmem0
  rw [e1, e2] at i2 i3
  have f := fbF_lt (pl := PmW bg nv S) (bg := bg) (plN bg nv S) 0 (by
    obtain ⟨b, hb1, hb2⟩ := c4
    exact ⟨b, Nat.zero_le _, by rw [Nat.zero_add]; exact hb1, hb2⟩)
  rw [Nat.zero_add] at f
  exact ⟨⟨hW.2.1, i1.1, i1.2⟩, i2, i3, f.1, f.2⟩
/-- the model's table behind its walk -/
theorem walkM_inv {bg : Int32} {nv : Nat} {S : St} {Q : Nat → Nat → Nat → Nat → Int → Prop} (hb : rng 0 1000 bg) (hV : Vm S nv) (hr : VpR nv S) (hQ : StM (plN bg nv S) nv (PmW bg nv S) (S.2.1 25) (S.2.1 44) (S.2.1 45) Q) (q0 : Q (fbF (PmW bg nv S) bg (plN bg nv S) 0) (fbF (PmW bg nv S) bg (plN bg nv S) 0) 0 (mtI (S.2.1 25) (S.2.1 44) (S.2.1 45) bg 0 nv) 0) : SndM (plN bg nv S) nv (PmW bg nv S) (S.2.1 25) (S.2.1 44) Q ((walkM bg nv S).2.1 47) ∧ (∀ lo hi s n, lo ≤ hi → hi < plN bg nv S → s < 2 → n ≤ nv → CloM (plN bg nv S) nv (PmW bg nv S) (S.2.1 25) (S.2.1 44) (S.2.1 45) ((walkM bg nv S).2.1 47) lo hi s n) ∧ ((walkM bg nv S).2.1 47 (atN (fbF (PmW bg nv S) bg (plN bg nv S) 0) (fbF (PmW bg nv S) bg (plN bg nv S) 0) 0 (mtI (S.2.1 25) (S.2.1 44) (S.2.1 45) bg 0 nv))).toInt ≤ 0 := by
  obtain ⟨hR, -, -, f1, f2⟩ := plc_f hb hV hr
  have h17 := hR.1
  have hnv := hV.2.1
  have e0 : eqPl (it apB nv (pl0 bg S)).1 (setI S 38 0) := (apB_eqs nv (pl0 bg S)).tr (addP_eq 0 bg (setI S 38 0))
  have e1 : (it apB nv (pl0 bg S)).1.2.1 25 = S.2.1 25 := e0.2.1 _ (by decide)
  have e2 : (it apB nv (pl0 bg S)).1.2.1 44 = S.2.1 44 := e0.2.1 _ (by decide)
  have e3 : (it apB nv (pl0 bg S)).1.2.1 45 = S.2.1 45 := e0.2.1 _ (by decide)
  have e4 : (it apB nv (pl0 bg S)).1.2.1 46 = PmW bg nv S := rfl
  have e5 : (it apB nv (pl0 bg S)).2 = plN bg nv S := rfl
  unfold walkM
  dsimp only
  rw [e4, e5]
  generalize fbF (PmW bg nv S) bg (plN bg nv S) 0 = b0 at *
  generalize plN bg nv S = m at *
  generalize PmW bg nv S = pm at *
  generalize (it apB nv (pl0 bg S)).1 = X at *
  have hmt : mtI (S.2.1 25) (S.2.1 44) (S.2.1 45) bg 0 nv ≤ cnI (PV (S.2.1 25) (S.2.1 44)) bg.toInt bg.toInt nv := by
    have := mt_0 (pl := S.2.1 25) (vf := S.2.1 44) (vh := S.2.1 45) (p := bg) (h := 0) nv
    rw [mtF_I, show (0 : Int32).toInt = 0 by decide] at this
    exact this
  have hcn := cnI_le (PV (S.2.1 25) (S.2.1 44)) bg.toInt bg.toInt nv
  have w1 : ∀ j, j < 9826 → (wk3 bg nv m b0 X).2.1 47 j = if j = atN b0 b0 0 (mtI (S.2.1 25) (S.2.1 44) (S.2.1 45) bg 0 nv) then 0 else 1000000000 := by
    intro j hj
    show upd (fillF 9826 1000000000 (X.2.1 47)) (atN b0 b0 0 (mtF (X.2.1 25) (X.2.1 44) (X.2.1 45) bg 0 nv)) 0 j = _
    rw [e1, e2, e3, mtF_I, show (0 : Int32).toInt = 0 by decide]
    by_cases z : j = atN b0 b0 0 (mtI (S.2.1 25) (S.2.1 44) (S.2.1 45) bg 0 nv)
    · rw [if_pos z, z, upd_eq]
    · rw [if_neg z, upd_ne z]
      exact fill_at hj
  generalize mtI (S.2.1 25) (S.2.1 44) (S.2.1 45) bg 0 nv = n0 at *
  have hx : InvY m nv pm (S.2.1 25) (S.2.1 44) (S.2.1 45) Q (fun _ _ _ _ => False) (wk3 bg nv m b0 X) := by
    refine ⟨e4, e1, e2, e3, ?_, fun _ _ _ _ _ _ _ _ z => z.elim⟩
    intro lo hi s n a1 a2 a3 a4 hne
    have hlt := at_lt (lo := lo) (hi := hi) (s := s) (n := n) (by omega) (by omega) a3 a4
    rw [w1 _ hlt] at hne ⊢
    by_cases z : atN lo hi s n = atN b0 b0 0 n0
    · obtain ⟨x1, x2, x3, x4⟩ := at_inj (by omega) (by omega) a3 (by omega) a4 (by omega) z
      rw [if_pos z, x1, x2, x3, x4, f2]
      exact ⟨q0, by decide, by rw [show (0 : Int32).toInt = 0 by decide]; omega, hmt⟩
    · rw [if_neg z] at hne
      exact absurd rfl hne
  have hle : leM (it (wkW m nv) (m - 1) (wk3 bg nv m b0 X)) (wk3 bg nv m b0 X) := leM.it (wkW_le m nv) _ _
  obtain ⟨k1, k2, k3, k4, k5, k6⟩ := wkA_inv hR hnv hQ hx (m - 1)
  refine ⟨k5, ?_, ?_⟩
  · intro lo hi s n a1 a2 a3 a4
    rcases Nat.lt_or_ge (hi - lo) (m - 1) with z | z
    · exact k6 lo hi s n a1 a2 a3 a4 z
    · exact fun _ => ⟨fun y => by omega, fun y => by omega⟩
  · refine Int.le_trans (hle _) ?_
    rw [w1 _ (at_lt (by omega) (by omega) (by omega) (by omega)), if_pos rfl]
    decide
end PLC
