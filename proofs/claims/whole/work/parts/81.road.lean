section RDA
theorem it_dec {f : Nat → Int32 → Int32} (h : ∀ k b, (f k b).toInt ≤ b.toInt) : ∀ n b, (it f n b).toInt ≤ b.toInt
  | 0, b => Int.le_refl _
  | n + 1, b => by
    rw [it_s]
    exact Int.le_trans (h n _) (it_dec h n b)
theorem it_at {f : Nat → Int32 → Int32} {k : Nat} {B : Int} (h : ∀ k b, (f k b).toInt ≤ b.toInt) (hB : ∀ b, (f k b).toInt ≤ B) : ∀ n b, k < n → (it f n b).toInt ≤ B
  | 0, b, z => by omega
  | n + 1, b, z => by
    rw [it_s]
    by_cases q : k = n
    · rw [← q]
      exact hB _
    · exact Int.le_trans (h n _) (it_at h hB n b (by omega))
theorem it_or {f : Nat → Int32 → Int32} {R : Int32 → Prop} : ∀ n b, (∀ k b, k < n → f k b = b ∨ R (f k b)) → it f n b = b ∨ R (it f n b)
  | 0, b, _ => Or.inl rfl
  | n + 1, b, h => by
    rw [it_s]
    rcases h n (it f n b) (by omega) with q | q
    · rw [q]
      exact it_or n b (fun k b z => h k b (by omega))
    · exact Or.inr q
theorem mnV_f (v b : Int32) : (mnV v b).toInt ≤ b.toInt ∧ (mnV v b).toInt ≤ v.toInt ∧ (mnV v b = b ∨ mnV v b = v) := by
  unfold mnV
  by_cases q : b ≤ v
  · rw [if_pos q]
    rw [Int32.le_iff_toInt_le] at q
    exact ⟨Int.le_refl _, q, Or.inl rfl⟩
  · rw [if_neg q]
    rw [Int32.le_iff_toInt_le] at q
    exact ⟨by omega, Int.le_refl _, Or.inr rfl⟩
theorem lfS_d (e : Nat → Int32) (lo hi k : Nat) : ∀ s b, (lfS e lo hi k s b).toInt ≤ b.toInt := fun s b => (mnV_f _ b).1
theorem lfK_d (e : Nat → Int32) (lo hi n : Nat) : ∀ i b, (lfK e lo hi n i b).toInt ≤ b.toInt := fun i b => it_dec (lfS_d e lo hi (n + i)) 2 b
theorem lfH_d (e : Nat → Int32) (nv n lo : Nat) : ∀ j b, (lfH e nv n lo j b).toInt ≤ b.toInt := fun j b => it_dec (lfK_d e lo (lo + j) n) _ b
theorem lfL_d (e : Nat → Int32) (nv m n : Nat) : ∀ lo b, (lfL e nv m n lo b).toInt ≤ b.toInt := fun lo b => it_dec (lfH_d e nv n lo) _ b
theorem leastV_le {e : Nat → Int32} {nv m n lo hi s k : Nat} (h1 : lo ≤ hi) (h2 : hi < m) (hs : s < 2) (h3 : n ≤ k) (h4 : k ≤ nv) : (leastV e nv m n).toInt ≤ (e (atN lo hi s k)).toInt := by
  unfold leastV
  refine it_at (k := lo) (lfL_d e nv m n) ?_ m _ (by omega)
  intro b
  unfold lfL
  refine it_at (k := hi - lo) (lfH_d e nv n lo) ?_ (m - lo) b (by omega)
  intro b
  unfold lfH
  rw [show lo + (hi - lo) = hi by omega]
  refine it_at (k := k - n) (lfK_d e lo hi n) ?_ (nv + 1 - n) b (by omega)
  intro b
  unfold lfK
  rw [show n + (k - n) = k by omega]
  refine it_at (k := s) (lfS_d e lo hi k) ?_ 2 b hs
  intro b
  exact (mnV_f _ b).2.1
def inLv (e : Nat → Int32) (nv m n : Nat) (x : Int32) : Prop := ∃ lo hi s k, lo ≤ hi ∧ hi < m ∧ s < 2 ∧ n ≤ k ∧ k ≤ nv ∧ x = e (atN lo hi s k)
theorem leastV_or (e : Nat → Int32) (nv m n : Nat) : leastV e nv m n = 1000000000 ∨ inLv e nv m n (leastV e nv m n) := by
  unfold leastV
  refine it_or (R := inLv e nv m n) m 1000000000 (fun lo b hlo => ?_)
  unfold lfL
  refine it_or (R := inLv e nv m n) (m - lo) b (fun j b hj => ?_)
  unfold lfH
  refine it_or (R := inLv e nv m n) (nv + 1 - n) b (fun i b hi => ?_)
  unfold lfK
  refine it_or (R := inLv e nv m n) 2 b (fun s b hs => ?_)
  rcases (mnV_f (e (atN lo (lo + j) s (n + i))) b).2.2 with q | q
  · exact Or.inl q
  · exact Or.inr ⟨lo, lo + j, s, n + i, by omega, by omega, hs, by omega, by omega, q⟩
theorem fhF_f (h : Nat → Int32) : ∀ r k a, (fhF h r k a).toInt ≤ a.toInt ∧ (∀ j, k ≤ j → j < k + r → (fhF h r k a).toInt ≤ (h j).toInt) ∧ (fhF h r k a = a ∨ ∃ j, k ≤ j ∧ j < k + r ∧ fhF h r k a = h j)
  | 0, k, a => ⟨Int.le_refl _, fun j z y => by omega, Or.inl rfl⟩
  | r + 1, k, a => by
    obtain ⟨i1, i2, i3⟩ := fhF_f h r (k + 1) (if h k < a then h k else a)
    have m1 : (if h k < a then h k else a).toInt ≤ a.toInt ∧ (if h k < a then h k else a).toInt ≤ (h k).toInt ∧ ((if h k < a then h k else a) = a ∨ (if h k < a then h k else a) = h k) := by
      by_cases q : h k < a
      · rw [if_pos q]
        rw [Int32.lt_iff_toInt_lt] at q
        exact ⟨by omega, Int.le_refl _, Or.inr rfl⟩
      · rw [if_neg q]
        rw [Int32.lt_iff_toInt_lt] at q
        exact ⟨Int.le_refl _, by omega, Or.inl rfl⟩
    rw [fhF]
    generalize (if h k < a then h k else a) = x at *
    obtain ⟨m1, m2, m3⟩ := m1
    refine ⟨by omega, fun j z y => ?_, ?_⟩
    · by_cases q : j = k
      · rw [q]
        omega
      · exact i2 j (by omega) (by omega)
    · rcases i3 with q | ⟨j, j1, j2, j3⟩
      · rcases m3 with w | w
        · exact Or.inl (q.trans w)
        · exact Or.inr ⟨k, by omega, by omega, q.trans w⟩
      · exact Or.inr ⟨j, by omega, by omega, j3⟩
theorem smU_pos {f : Nat → Nat} : ∀ n, 0 < smU f n ↔ ∃ k, k < n ∧ 0 < f k
  | 0 => ⟨fun z => absurd z (Nat.lt_irrefl 0), fun ⟨k, hk, _⟩ => by omega⟩
  | n + 1 => by
    have ih := smU_pos (f := f) n
    rw [smU]
    constructor
    · intro z
      by_cases q : 0 < f n
      · exact ⟨n, by omega, q⟩
      · obtain ⟨k, hk, w⟩ := ih.mp (by omega)
        exact ⟨k, by omega, w⟩
    · rintro ⟨k, hk, w⟩
      rcases lt_split hk with y | y
      · have := ih.mpr ⟨k, y, w⟩
        omega
      · rw [y] at w
        omega
theorem mtI_sm (pl vf vh : Nat → Int32) (p : Int32) (t : Int) : ∀ n, mtI pl vf vh p t n = smU (cR (fun k => pl (vf k).toNatClampNeg) vh p t) n
  | 0 => rfl
  | n + 1 => by
    rw [mtI, smU, mtI_sm pl vf vh p t n]
    rfl
theorem cR_pos {P H : Nat → Int32} {p : Int32} {k : Nat} {t : Int} (ht : t ≤ -2147483648) : 0 < cR P H p t k ↔ P k = p := by
  have h2 := Int32.le_toInt (H k)
  unfold cR
  by_cases q : P k = p
  · rw [if_pos q, if_neg (by omega)]
    exact ⟨fun _ => q, fun _ => by omega⟩
  · rw [if_neg q]
    exact ⟨fun z => by omega, fun z => absurd z q⟩
/-- the same places on both sides -/
theorem lk_occ {P H pl vf vh : Nat → Int32} {nv : Nat} (h : LkV P H pl vf vh nv) (p : Int32) : (∃ k, k < nv ∧ P k = p) ↔ ∃ j, j < nv ∧ pl (vf j).toNatClampNeg = p := by
  obtain ⟨t, ht⟩ : ∃ t : Int, t ≤ -2147483648 := ⟨-2147483648, Int.le_refl _⟩
  have e := h p t
  rw [mtI_sm] at e
  have e2 : ∀ j, 0 < cR (fun k => pl (vf k).toNatClampNeg) vh p t j ↔ pl (vf j).toNatClampNeg = p := fun j => cR_pos ht
  generalize (fun k => pl (vf k).toNatClampNeg) = V at *
  have a := smU_pos (f := cR P H p t) nv
  have b := smU_pos (f := cR V vh p t) nv
  rw [e] at b
  constructor
  · rintro ⟨k, hk, q⟩
    obtain ⟨j, hj, w⟩ := b.mp (a.mpr ⟨k, hk, (cR_pos ht).mpr q⟩)
    exact ⟨j, hj, (e2 j).mp w⟩
  · rintro ⟨k, hk, q⟩
    obtain ⟨j, hj, w⟩ := a.mp (b.mpr ⟨k, hk, (e2 k).mpr q⟩)
    exact ⟨j, hj, (cR_pos ht).mp w⟩
theorem lcF_spec (pl : Nat → Int32) (p : Int32) : ∀ r k, (∀ j, k ≤ j → j < lcF pl p r k → (pl j).toInt < p.toInt) ∧ (lcF pl p r k < k + r → p.toInt ≤ (pl (lcF pl p r k)).toInt)
  | 0, k => by
    unfold lcF
    exact ⟨fun j a b => by omega, fun q => by omega⟩
  | r + 1, k => by
    unfold lcF
    by_cases q : p ≤ pl k
    · rw [if_pos q]
      rw [Int32.le_iff_toInt_le] at q
      exact ⟨fun j a b => by omega, fun _ => q⟩
    · rw [if_neg q]
      rw [Int32.le_iff_toInt_le] at q
      obtain ⟨h1, h2⟩ := lcF_spec pl p r (k + 1)
      refine ⟨fun j a b => ?_, fun z => h2 (by omega)⟩
      rcases Nat.lt_or_ge k j with w | w
      · exact h1 j w b
      · have : j = k := by omega
        rw [this]
        omega
theorem row_le {P : Nat → Int32} {n i j : Nat} (h : ∀ k, k + 1 < n → (P k).toInt ≤ (P (k + 1)).toInt) (hi : i ≤ j) (hj : j < n) : (P i).toInt ≤ (P j).toInt := by
  induction j with
  | zero =>
    have : i = 0 := by omega
    rw [this]
    exact Int.le_refl _
  | succ j ih =>
    rcases Nat.lt_or_ge i (j + 1) with q | q
    · have := ih (by omega) (by omega)
      have := h j hj
      omega
    · have : i = j + 1 := by omega
      rw [this]
      exact Int.le_refl _
/-- the visits, alike -/
def RVi (S : St) (nf nv : Nat) : Prop := nv ≤ 16 ∧ S.1 12 = nI nv ∧ S.1 37 = nI nv ∧ (∀ k, k < nv → ∃ i, i < nf ∧ S.2.1 44 k = nI i) ∧ (∀ k, k < nv → rng 0 1000 (S.2.1 14 k)) ∧ (∀ k, k + 1 < nv → (S.2.1 14 k).toInt ≤ (S.2.1 14 (k + 1)).toInt) ∧ LkV (S.2.1 14) (S.2.1 15) (S.2.1 25) (S.2.1 44) (S.2.1 45) nv
theorem rd_of {S : St} {nf nv : Nat} {bg : Int32} (hb : rng 0 1000 bg) (hv : RVi S nf nv) : RdC (lcF (S.2.1 14) bg nv 0) (nv - lcF (S.2.1 14) bg nv 0) bg (S.2.1 14) ∧ lcF (S.2.1 14) bg nv 0 ≤ nv := by
  obtain ⟨h1, h2, h3, h4, h5, h6, h7⟩ := hv
  have hl := lcF_le (S.2.1 14) bg nv 0
  obtain ⟨s1, s2⟩ := lcF_spec (S.2.1 14) bg nv 0
  generalize lcF (S.2.1 14) bg nv 0 = l at *
  refine ⟨⟨by omega, hb, fun k hk => h5 k (by omega), fun k hk => s1 k (by omega) hk, fun k a b => ?_, fun k hk => h6 k (by omega)⟩, by omega⟩
  have := row_le h6 a (by omega)
  have := s2 (by omega)
  omega
theorem vm_of {S S' : St} {nf nv : Nat} (hF : RF S nf) (hv : RVi S nf nv) (e1 : S'.2.1 25 = S.2.1 25) (e2 : S'.2.1 44 = S.2.1 44) (e4 : S'.1 37 = S.1 37) : Vm S' nv ∧ VpR nv S' := by
  obtain ⟨h1, h2, h3, h4, h5, h6, h7⟩ := hv
  have h40 := hF.1
  refine ⟨⟨e4.trans h3, h1, fun k hk => ?_⟩, fun k hk => ?_⟩
  · rw [e2]
    obtain ⟨i, hi, ei⟩ := h4 k hk
    rw [ei]
    exact vp_in_nI (by omega) (by decide)
  · rw [e1, e2]
    obtain ⟨i, hi, ei⟩ := h4 k hk
    rw [ei, nI_clamp (by omega)]
    exact (hF.2.2.2.2.2.2 i hi).2.1
theorem walkS_0 {bg : Int32} {n : Nat} {S : St} {r : Nat} : ((walkS bg n S).2.1 16 (cellN r 0 0 0 0)).toInt ≤ 0 := by
  have hle : leC (walkS bg n S) (walk0 bg n S) := leC.it (goA_le _ _) _ _
  refine Int.le_trans (hle _) ?_
  have e : cellN r 0 0 0 0 = 0 := by unfold cellN; omega
  rw [e]
  show (upd (fillF 2754 1000000 (S.2.1 16)) 0 0 0).toInt ≤ 0
  rw [upd_eq]
  decide
/-- what the two walks' tables say is the same -/
theorem road_AB {bg : Int32} {nf nv : Nat} {S S' : St} (hb : rng 0 1000 bg) (hF : RF S nf) (hv : RVi S nf nv) (e1 : S'.2.1 25 = S.2.1 25) (e2 : S'.2.1 44 = S.2.1 44) (e3 : S'.2.1 45 = S.2.1 45) (e4 : S'.1 37 = S.1 37) : (∀ c, c ≤ nv → ¬ (walkS bg nv S).2.1 17 c = 1000000 → ((walkS bg nv S).2.1 17 c).toInt ≤ 100000 ∧ ∃ lo hi s n, lo ≤ hi ∧ hi < plN bg nv S' ∧ s < 2 ∧ c ≤ n ∧ n ≤ nv ∧ ((walkM bg nv S').2.1 47 (atN lo hi s n)).toInt ≤ ((walkS bg nv S).2.1 17 c).toInt) ∧ (∀ lo hi s n, lo ≤ hi → hi < plN bg nv S' → s < 2 → n ≤ nv → ¬ (walkM bg nv S').2.1 47 (atN lo hi s n) = 1000000000 → ∃ c, n ≤ c ∧ c ≤ nv ∧ ((walkS bg nv S).2.1 17 c).toInt ≤ 100000 ∧ ((walkS bg nv S).2.1 17 c).toInt ≤ ((walkM bg nv S').2.1 47 (atN lo hi s n)).toInt) := by
  obtain ⟨hC, hl⟩ := rd_of hb hv
  obtain ⟨hV, hr⟩ := vm_of (S' := S') hF hv e1 e2 e4
  obtain ⟨hM, o1, o2, f1, f2⟩ := plc_f hb hV hr
  have h16 := hv.1
  have h17 := hM.1
  have hLk : LkV (S.2.1 14) (S.2.1 15) (S'.2.1 25) (S'.2.1 44) (S'.2.1 45) nv := by
    rw [e1, e2, e3]
    exact hv.2.2.2.2.2.2
  have hIn : ∀ k, k < nv → ∃ b, b < plN bg nv S' ∧ PmW bg nv S' b = S.2.1 14 k := by
    intro k hk
    obtain ⟨j, hj, q⟩ := (lk_occ hLk (S.2.1 14 k)).mp ⟨k, hk, rfl⟩
    rw [← q]
    exact o2 j hj
  have hOut : ∀ b, b < plN bg nv S' → PmW bg nv S' b = bg ∨ ∃ k, k < nv ∧ PmW bg nv S' b = S.2.1 14 k := by
    intro b hb'
    rcases o1 b hb' with q | ⟨j, hj, q⟩
    · exact Or.inl q
    · obtain ⟨k, hk, w⟩ := (lk_occ hLk (PmW bg nv S' b)).mpr ⟨j, hj, q.symm⟩
      exact Or.inr ⟨k, hk, w.symm⟩
  have hlr : lcF (S.2.1 14) bg nv 0 + (nv - lcF (S.2.1 14) bg nv 0) = nv := by omega
  obtain ⟨sM, cM, sM0⟩ := walkM_inv (Q := fun _ _ _ _ _ => True) hb hV hr ⟨fun _ _ _ _ _ _ _ _ _ _ _ => trivial, fun _ _ _ _ _ _ _ _ _ _ => trivial⟩ trivial
  obtain ⟨sC, -, cC⟩ := walkS_inv (Q := fun _ _ _ _ _ => True) (n := nv) (S := S) rfl hlr hC ⟨fun _ _ _ _ _ _ _ _ _ _ _ _ => trivial, fun _ _ _ _ _ _ _ _ _ _ _ _ => trivial⟩ trivial
  have sC0 := walkS_0 (bg := bg) (n := nv) (S := S) (r := nv - lcF (S.2.1 14) bg nv 0)
  obtain ⟨-, sH, -⟩ := walkS_inv (n := nv) (S := S) rfl hlr hC (stA hC hlr h16 hM hIn hOut hLk sM cM) (qA_0 hLk f1 f2 sM0)
  obtain ⟨sB, -, -⟩ := walkM_inv hb hV hr (stB_all hC hlr hM hIn hOut hLk f1 f2 sC cC) (qB_0 hC hlr hLk f2 sC cC sC0)
  generalize (walkM bg nv S').2.1 47 = e at *
  generalize (walkS bg nv S).2.1 17 = h at *
  generalize (walkS bg nv S).2.1 16 = E at *
  constructor
  · intro c hc hne
    obtain ⟨a, b, s, ha, hb', hs, hq, w1, w2, w3⟩ := sH c (by omega) hne
    obtain ⟨lo, hi, s', n', q1, q2, q3, q4, q5, q6, q7, q8, q9⟩ := hq
    have := iabs_p ((posM (PmW bg nv S') lo hi s').toInt - (posC bg (S.2.1 14) (lcF (S.2.1 14) bg nv 0) a b s).toInt)
    exact ⟨by omega, lo, hi, s', n', q1, q2, q3, by omega, q4, by omega⟩
  · intro lo hi s n a1 a2 a3 a4 hne
    obtain ⟨hq, w1, w2, w3⟩ := sB lo hi s n a1 a2 a3 (by omega) hne
    obtain ⟨x1, x2, a, b, s', c, q1, q2, q3, q4, q5, q6, q7, q8, q9⟩ := hq
    have cl := (cC a b s' c q1 q2 q3 q4 q5).1
    exact ⟨c, q9, by omega, by omega, by omega⟩
/-- the start's own cell -/
theorem walk_st {bg : Int32} {nv : Nat} {S : St} (hV : Vm S nv) : ∃ b0 n0, b0 < plN bg nv S ∧ n0 ≤ nv ∧ ((walkM bg nv S).2.1 47 (atN b0 b0 0 n0)).toInt ≤ 0 := by
  have hW := walkM_W (bg := bg) hV
  have h17 := hW.2.1
  have hnv := hV.2.1
  have hc0 : addPc 0 bg (setI S 38 0) = 1 := by
    unfold addPc
    dsimp only
    rw [if_pos (Nat.zero_le _)]
  have h0 := addP_cnt (n := 0) bg (setI S 38 0) (by rw [nI_0]; rfl)
  rw [hc0] at h0
  have hmem0 : ∃ b, b < (pl0 bg S).2 ∧ (pl0 bg S).1.2.1 46 b = bg := by
    have := addP_mem (n := 0) bg (setI S 38 0) (q := bg) (Or.inl rfl)
    rw [hc0] at this
    exact this
  obtain ⟨-, -, -, c4⟩ := apB_cnt (bg := bg) nv (pl0 bg S) h0.1 hmem0
  have f := fbF_lt (pl := PmW bg nv S) (bg := bg) (plN bg nv S) 0 (by
    obtain ⟨b, hb1, hb2⟩ := c4
    exact ⟨b, Nat.zero_le _, by rw [Nat.zero_add]; exact hb1, hb2⟩)
  rw [Nat.zero_add] at f
  have hmt := mtF_le ((it apB nv (pl0 bg S)).1.2.1 25) ((it apB nv (pl0 bg S)).1.2.1 44) ((it apB nv (pl0 bg S)).1.2.1 45) bg 0 nv
  refine ⟨fbF (PmW bg nv S) bg (plN bg nv S) 0, mtF ((it apB nv (pl0 bg S)).1.2.1 25) ((it apB nv (pl0 bg S)).1.2.1 44) ((it apB nv (pl0 bg S)).1.2.1 45) bg 0 nv, f.1, hmt, ?_⟩
  have e4 : (it apB nv (pl0 bg S)).1.2.1 46 = PmW bg nv S := rfl
  have e5 : (it apB nv (pl0 bg S)).2 = plN bg nv S := rfl
  unfold walkM
  dsimp only
  rw [e4, e5]
  generalize fbF (PmW bg nv S) bg (plN bg nv S) 0 = b0 at *
  generalize plN bg nv S = m at *
  generalize (it apB nv (pl0 bg S)).1 = X at *
  have hle : leM (it (wkW m nv) (m - 1) (wk3 bg nv m b0 X)) (wk3 bg nv m b0 X) := leM.it (wkW_le m nv) _ _
  refine Int.le_trans (hle _) ?_
  show (upd (fillF 9826 1000000000 (X.2.1 47)) (atN b0 b0 0 (mtF (X.2.1 25) (X.2.1 44) (X.2.1 45) bg 0 nv)) 0 (atN b0 b0 0 (mtF (X.2.1 25) (X.2.1 44) (X.2.1 45) bg 0 nv))).toInt ≤ 0
  rw [upd_eq]
  decide
theorem most_h0 {bg : Int32} {nv : Nat} {S : St} (hV : Vm S nv) : ¬ leastV ((walkM bg nv S).2.1 47) nv (plN bg nv S) 0 = 1000000000 := by
  obtain ⟨b0, n0, h1, h2, h3⟩ := walk_st (bg := bg) hV
  have := leastV_le (e := (walkM bg nv S).2.1 47) (Nat.le_refl b0) h1 (show 0 < 2 by omega) (Nat.zero_le n0) h2
  exact (ne_of_small (by omega)).1
end RDA
