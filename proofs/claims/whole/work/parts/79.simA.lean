section SIA
def smU (f : Nat → Nat) : Nat → Nat
  | 0 => 0
  | k + 1 => smU f k + f k
theorem smU_le {f h : Nat → Nat} : ∀ n, (∀ k, k < n → f k ≤ h k) → smU f n ≤ smU h n
  | 0, _ => Nat.le_refl _
  | n + 1, q => by
    have i := smU_le n (fun k hk => q k (by omega))
    have j := q n (by omega)
    rw [smU, smU]
    omega
theorem smU_add (f h : Nat → Nat) : ∀ n, smU (fun k => f k + h k) n = smU f n + smU h n
  | 0 => rfl
  | n + 1 => by
    rw [smU, smU, smU, smU_add f h n]
    omega
theorem smU_z {k0 d : Nat} : ∀ n, n ≤ k0 → smU (fun k => if k = k0 then d else 0) n = 0
  | 0, _ => rfl
  | n + 1, h => by
    rw [smU, smU_z n (by omega), if_neg (by omega)]
theorem smU_one {k0 d : Nat} : ∀ n, k0 < n → smU (fun k => if k = k0 then d else 0) n = d
  | 0, h => by omega
  | n + 1, h => by
    rw [smU]
    by_cases z : n = k0
    · rw [smU_z n (by omega), if_pos z, Nat.zero_add]
    · rw [smU_one n (by omega), if_neg z, Nat.add_zero]
theorem smU_ins {f h : Nat → Nat} {k0 d n : Nat} (hk : k0 < n) (q : ∀ k, k < n → f k + (if k = k0 then d else 0) ≤ h k) : smU f n + d ≤ smU h n := by
  have i := smU_le n q
  rw [smU_add, smU_one n hk] at i
  exact i
/-- one row of the component's visits, met at a place in an hour -/
def cR (P H : Nat → Int32) (p : Int32) (t : Int) (k : Nat) : Nat := if P k = p then (if (H k).toInt < t then 0 else 1) else 0
def LkV (P H pl vf vh : Nat → Int32) (nv : Nat) : Prop := ∀ (p : Int32) (t : Int), mtI pl vf vh p t nv = smU (cR P H p t) nv
theorem mtI_le (pl vf vh : Nat → Int32) (p : Int32) (t : Int) : ∀ n, mtI pl vf vh p t n ≤ n
  | 0 => Nat.le_refl _
  | n + 1 => by
    have := mtI_le pl vf vh p t n
    rw [mtI]
    repeat' split
    all_goals omega
theorem mtI_L {pl vf vh : Nat → Int32} {p : Int32} {t A B : Int} (hA : p.toInt < A) (hB : p.toInt ≤ B) : ∀ n, mtI pl vf vh p t n + cnI (PV pl vf) A B n ≤ cnI (PV pl vf) p.toInt B n
  | 0 => Nat.le_refl _
  | n + 1 => by
    have ih := mtI_L (pl := pl) (vf := vf) (vh := vh) (t := t) hA hB n
    rw [mtI, cnI, cnI]
    have e : PV pl vf n = (pl (vf n).toNatClampNeg).toInt := rfl
    by_cases q : pl (vf n).toNatClampNeg = p
    · have qz : (pl (vf n).toNatClampNeg).toInt = p.toInt := congrArg _ q
      rw [if_pos q]
      rw [e]
      generalize (pl (vf n).toNatClampNeg).toInt = y at *
      repeat' split
      all_goals omega
    · rw [if_neg q]
      generalize PV pl vf n = y at *
      repeat' split
      all_goals omega
theorem mtI_R {pl vf vh : Nat → Int32} {p : Int32} {t A B : Int} (hA : A ≤ p.toInt) (hB : B < p.toInt) : ∀ n, mtI pl vf vh p t n + cnI (PV pl vf) A B n ≤ cnI (PV pl vf) A p.toInt n
  | 0 => Nat.le_refl _
  | n + 1 => by
    have ih := mtI_R (pl := pl) (vf := vf) (vh := vh) (t := t) hA hB n
    rw [mtI, cnI, cnI]
    have e : PV pl vf n = (pl (vf n).toNatClampNeg).toInt := rfl
    by_cases q : pl (vf n).toNatClampNeg = p
    · have qz : (pl (vf n).toNatClampNeg).toInt = p.toInt := congrArg _ q
      rw [if_pos q]
      rw [e]
      generalize (pl (vf n).toNatClampNeg).toInt = y at *
      repeat' split
      all_goals omega
    · rw [if_neg q]
      generalize PV pl vf n = y at *
      repeat' split
      all_goals omega
theorem tri_d {x y z : Int} (h : z ≤ y) : iabs (x - z) ≤ iabs (x - y) + (y - z) := by
  unfold iabs
  split <;> split <;> omega
theorem tri_u {x y z : Int} (h : y ≤ z) : iabs (x - z) ≤ iabs (x - y) + (z - y) := by
  unfold iabs
  split <;> split <;> omega
theorem iabs_s (x y : Int) : iabs (x - y) = iabs (y - x) := by
  unfold iabs
  split <;> split <;> omega
theorem iabs_0 (x : Int) : iabs (x - x) = 0 := by
  rw [Int.sub_self]
  rfl
theorem iabs_p (x : Int) : 0 ≤ iabs x := by
  unfold iabs
  split <;> omega
theorem iabs_r {x y : Int32} (hx : rng 0 1000 x) (hy : rng 0 1000 y) : iabs (x.toInt - y.toInt) ≤ 1000 := by
  obtain ⟨x1, x2⟩ := hx
  obtain ⟨y1, y2⟩ := hy
  unfold iabs
  split <;> omega
variable {l r nv m : Nat} {bg : Int32} {P H pm pl vf vh : Nat → Int32} {e : Nat → Int32}
theorem srt_le {i j : Nat} (h : RdC l r bg P) (hi : i ≤ j) (hj : j < l + r) : (P i).toInt ≤ (P j).toInt := by
  induction j with
  | zero =>
    have : i = 0 := by omega
    rw [this]
    exact Int.le_refl _
  | succ j ih =>
    rcases Nat.lt_or_ge i (j + 1) with q | q
    · have := ih (by omega) (by omega)
      have := h.2.2.2.2.2 j hj
      omega
    · have : i = j + 1 := by omega
      rw [this]
      exact Int.le_refl _
theorem posC_aL {a b : Nat} (ha : a < l) : posC bg P l (a + 1) b 0 = P (l - a - 1) := by
  unfold posC
  rw [if_pos rfl, if_neg (by omega), show l - (a + 1) = l - a - 1 by omega]
theorem posC_aR {a b : Nat} : posC bg P l (a + 1) b 1 = posC bg P l a b 1 := by
  unfold posC
  rw [if_neg (show ¬ (1 : Nat) = 0 by decide), if_neg (show ¬ (1 : Nat) = 0 by decide)]
theorem posC_bR {a b : Nat} : posC bg P l a (b + 1) 1 = P (l + b) := by
  unfold posC
  rw [if_neg (by decide), if_neg (by omega), show l + (b + 1) - 1 = l + b by omega]
theorem posC_bL {a b : Nat} : posC bg P l a (b + 1) 0 = posC bg P l a b 0 := by
  unfold posC
  rw [if_pos rfl, if_pos rfl]
theorem posC_0 {a b : Nat} (h : RdC l r bg P) (ha : a ≤ l) : (posC bg P l a b 0).toInt ≤ bg.toInt ∧ ∀ k, l ≤ k + a → k < l + r → (posC bg P l a b 0).toInt ≤ (P k).toInt := by
  unfold posC
  rw [if_pos rfl]
  by_cases z : a = 0
  · rw [if_pos z]
    exact ⟨Int.le_refl _, fun k h1 h2 => h.2.2.2.2.1 k (by omega) h2⟩
  · rw [if_neg z]
    have := h.2.2.2.1 (l - a) (by omega)
    exact ⟨by omega, fun k h1 h2 => srt_le h (by omega) h2⟩
theorem posC_1 {a b : Nat} (h : RdC l r bg P) (hb : b ≤ r) : bg.toInt ≤ (posC bg P l a b 1).toInt ∧ ∀ k, k < l + b → (P k).toInt ≤ (posC bg P l a b 1).toInt := by
  unfold posC
  rw [if_neg (by decide)]
  by_cases z : b = 0
  · rw [if_pos z]
    exact ⟨Int.le_refl _, fun k h1 => by have := h.2.2.2.1 k (by omega); omega⟩
  · rw [if_neg z]
    have := h.2.2.2.2.1 (l + b - 1) (by omega) (by omega)
    exact ⟨by omega, fun k h1 => srt_le h (by omega) (by omega)⟩
/-- a row within the stretch that he has not gone by yet -/
def gA (P H : Nat → Int32) (l a b : Nat) (A B t : Int) (k : Nat) : Nat := if (k + a < l ∨ l + b ≤ k) ∧ A ≤ (P k).toInt ∧ (P k).toInt ≤ B ∧ ¬ (H k).toInt < t then 1 else 0
/-- the model has a cell that is as good -/
def QA (m nv l : Nat) (bg : Int32) (P H pm : Nat → Int32) (e : Nat → Int32) (a b s c : Nat) (t : Int) : Prop := ∃ lo hi s' n', lo ≤ hi ∧ hi < m ∧ s' < 2 ∧ n' ≤ nv ∧ ¬ e (atN lo hi s' n') = 1000000000 ∧ pm lo = posC bg P l a b 0 ∧ pm hi = posC bg P l a b 1 ∧ (e (atN lo hi s' n')).toInt + iabs ((posM pm lo hi s').toInt - (posC bg P l a b s).toInt) ≤ t ∧ c + smU (gA P H l a b (pm lo).toInt (pm hi).toInt t) nv ≤ n'
theorem ne_of_small {x : Int32} (h : x.toInt ≤ 100000) : ¬ x = 1000000000 ∧ ¬ x = 1000000 := by
  constructor
  · intro z
    rw [z, show (1000000000 : Int32).toInt = 1000000000 by decide] at h
    omega
  · intro z
    rw [z, show (1000000 : Int32).toInt = 1000000 by decide] at h
    omega
theorem stA_L (hC : RdC l r bg P) (hlr : l + r = nv) (hnv : nv ≤ 16) (hM : RdM m pm) (hIn : ∀ k, k < nv → ∃ b, b < m ∧ pm b = P k) (hOut : ∀ b, b < m → pm b = bg ∨ ∃ k, k < nv ∧ pm b = P k) (hLk : LkV P H pl vf vh nv) (hS : SndM m nv pm pl vf (fun _ _ _ _ _ => True) e) (hCl : ∀ lo hi s n, lo ≤ hi → hi < m → s < 2 → n ≤ nv → CloM m nv pm pl vf vh e lo hi s n) {a b s c : Nat} {t : Int} (ha : a < l) (hb : b ≤ r) (hq : QA m nv l bg P H pm e a b s c t) : QA m nv l bg P H pm e (a + 1) b 0 (c + met (H (l - a - 1)).toInt (tLC bg P l a b s t)) (tLC bg P l a b s t) := by
  obtain ⟨lo, hi, s', n', q1, q2, q3, q4, q5, q6, q7, q8, q9⟩ := hq
  obtain ⟨k0, hk0⟩ : ∃ k0, k0 + a + 1 = l := ⟨l - a - 1, by omega⟩
  have ek : l - a - 1 = k0 := by omega
  have p1 := pos_L (s := s) hC ha hb
  have p2 := pos_L (s := 0) hC ha hb
  obtain ⟨z1, z2⟩ := posC_0 (b := b) hC (Nat.le_of_lt ha)
  obtain ⟨y1, y2⟩ := posC_1 (a := a) hC hb
  have h17 := hM.1
  have hml := pm_le hM q1 q2
  obtain ⟨-, v1, v2, v3⟩ := hS lo hi s' n' q1 q2 q3 (by omega) q5
  have cc := hCl lo hi s' n' q1 q2 q3 q4 q5
  have hcn2 := cnI_le (PV pl vf)
  unfold tLC
  rw [ek] at p1 p2 ⊢
  have tr := tri_d (x := (posM pm lo hi s').toInt) p1
  have eL := posC_aL (bg := bg) (P := P) (b := b) ha
  rw [ek] at eL
  have eR := posC_aR (bg := bg) (P := P) (l := l) (a := a) (b := b)
  by_cases q : P k0 = pm lo
  · refine ⟨lo, hi, s', n', q1, q2, q3, q4, q5, by rw [eL, q], by rw [eR, q7], ?_, ?_⟩
    · rw [eL]
      omega
    · have := smU_ins (f := gA P H l (a + 1) b (pm lo).toInt (pm hi).toInt (t + (posC bg P l a b s).toInt - (P k0).toInt)) (h := gA P H l a b (pm lo).toInt (pm hi).toInt t) (k0 := k0) (d := met (H k0).toInt (t + (posC bg P l a b s).toInt - (P k0).toInt)) (n := nv) (by omega) ?_
      · omega
      · intro k hk
        have qz : (P k0).toInt = (pm lo).toInt := congrArg _ q
        unfold gA met
        by_cases w : k = k0
        · rw [w, if_pos rfl, if_neg (by omega)]
          repeat' split
          all_goals omega
        · rw [if_neg w]
          repeat' split
          all_goals omega
  · have qz : ¬ (P k0).toInt = (pm lo).toInt := fun z => q (Int32.toInt_inj.mp z)
    have q6z : (pm lo).toInt = (posC bg P l a b 0).toInt := congrArg _ q6
    have q7z : (pm hi).toInt = (posC bg P l a b 1).toInt := congrArg _ q7
    obtain ⟨b', hb', eb⟩ := hIn k0 (by omega)
    have ebz : (pm b').toInt = (P k0).toInt := congrArg _ eb
    have hlo : b' < lo := by
      rcases Nat.lt_or_ge b' lo with w | w
      · exact w
      · have := pm_le hM w hb'
        omega
    have g1 := pm_le hM (show b' ≤ lo - 1 by omega) (by omega)
    have g2 := pm_lt hM (show lo - 1 < lo by omega) (by omega)
    have e1 : pm (lo - 1) = P k0 := by
      refine Int32.toInt_inj.mp ?_
      rcases hOut (lo - 1) (by omega) with w | ⟨k, hk, w⟩
      · have : (pm (lo - 1)).toInt = bg.toInt := congrArg _ w
        omega
      · have wz : (pm (lo - 1)).toInt = (P k).toInt := congrArg _ w
        have : k ≤ k0 := by
          rcases Nat.lt_or_ge k0 k with u | u
          · have := z2 k (by omega) (by omega)
            omega
          · exact u
        have := srt_le hC this (by omega)
        omega
    have c1 := cc.1 (by omega)
    unfold tM at c1
    rw [e1] at c1
    have hT := iabs_s (P k0).toInt (posM pm lo hi s').toInt
    have hT1 : iabs ((P k0).toInt - (posM pm lo hi s').toInt) ≤ 1000 := by
      rw [← e1]
      exact iabs_r (hM.2.1 _ (by omega)) (posM_rng hM q1 q2)
    have hmt := mtI_L (pl := pl) (vf := vf) (vh := vh) (p := P k0) (t := (e (atN lo hi s' n')).toInt + iabs ((P k0).toInt - (posM pm lo hi s').toInt)) (A := (pm lo).toInt) (B := (pm hi).toInt) (by omega) (by omega) nv
    have hmt2 := hcn2 (P k0).toInt (pm hi).toInt nv
    have ep : posM pm (lo - 1) hi 0 = P k0 := e1
    have hlk := hLk (P k0) ((e (atN lo hi s' n')).toInt + iabs ((P k0).toInt - (posM pm lo hi s').toInt))
    refine ⟨lo - 1, hi, 0, n' + mtI pl vf vh (P k0) ((e (atN lo hi s' n')).toInt + iabs ((P k0).toInt - (posM pm lo hi s').toInt)) nv, by omega, q2, by omega, by omega, (ne_of_small (by omega)).1, by rw [eL, e1], by rw [eR, q7], ?_, ?_⟩
    · rw [eL, ep, iabs_0]
      omega
    · rw [hlk, e1]
      have := smU_ins (f := gA P H l (a + 1) b (P k0).toInt (pm hi).toInt (t + (posC bg P l a b s).toInt - (P k0).toInt)) (h := fun k => gA P H l a b (pm lo).toInt (pm hi).toInt t k + cR P H (P k0) ((e (atN lo hi s' n')).toInt + iabs ((P k0).toInt - (posM pm lo hi s').toInt)) k) (k0 := k0) (d := met (H k0).toInt (t + (posC bg P l a b s).toInt - (P k0).toInt)) (n := nv) (by omega) ?_
      · rw [smU_add] at this
        omega
      · intro k hk
        unfold gA met cR
        by_cases w : k = k0
        · rw [w, if_pos rfl, if_neg (by omega), if_pos rfl]
          repeat' split
          all_goals omega
        · rw [if_neg w]
          by_cases u : P k = P k0
          · rw [if_pos u]
            repeat' split
            all_goals omega
          · have uz : ¬ (P k).toInt = (P k0).toInt := fun z => u (Int32.toInt_inj.mp z)
            rw [if_neg u]
            have f1 : k + (a + 1) < l → (P k).toInt ≤ (P k0).toInt := fun z => srt_le hC (by omega) (by omega)
            have f2 : l + b ≤ k → bg.toInt ≤ (P k).toInt := fun z => hC.2.2.2.2.1 k (by omega) (by omega)
            repeat' split
            all_goals omega
theorem stA_R (hC : RdC l r bg P) (hlr : l + r = nv) (hnv : nv ≤ 16) (hM : RdM m pm) (hIn : ∀ k, k < nv → ∃ b, b < m ∧ pm b = P k) (hOut : ∀ b, b < m → pm b = bg ∨ ∃ k, k < nv ∧ pm b = P k) (hLk : LkV P H pl vf vh nv) (hS : SndM m nv pm pl vf (fun _ _ _ _ _ => True) e) (hCl : ∀ lo hi s n, lo ≤ hi → hi < m → s < 2 → n ≤ nv → CloM m nv pm pl vf vh e lo hi s n) {a b s c : Nat} {t : Int} (ha : a ≤ l) (hb : b < r) (hq : QA m nv l bg P H pm e a b s c t) : QA m nv l bg P H pm e a (b + 1) 1 (c + met (H (l + b)).toInt (tRC bg P l a b s t)) (tRC bg P l a b s t) := by
  obtain ⟨lo, hi, s', n', q1, q2, q3, q4, q5, q6, q7, q8, q9⟩ := hq
  obtain ⟨k0, hk0⟩ : ∃ k0, k0 = l + b := ⟨l + b, rfl⟩
  have p1 := pos_R (s := s) hC ha hb
  have p2 := pos_R (s := 1) hC ha hb
  obtain ⟨z1, z2⟩ := posC_0 (b := b) hC ha
  obtain ⟨y1, y2⟩ := posC_1 (a := a) hC (Nat.le_of_lt hb)
  have h17 := hM.1
  have hml := pm_le hM q1 q2
  obtain ⟨-, v1, v2, v3⟩ := hS lo hi s' n' q1 q2 q3 (by omega) q5
  have cc := hCl lo hi s' n' q1 q2 q3 q4 q5
  have hcn2 := cnI_le (PV pl vf)
  unfold tRC
  have eR := posC_bR (bg := bg) (P := P) (l := l) (a := a) (b := b)
  rw [← hk0] at p1 p2 eR ⊢
  have tr := tri_u (x := (posM pm lo hi s').toInt) p1
  have eL := posC_bL (bg := bg) (P := P) (l := l) (a := a) (b := b)
  by_cases q : P k0 = pm hi
  · refine ⟨lo, hi, s', n', q1, q2, q3, q4, q5, by rw [eL, q6], by rw [eR, q], ?_, ?_⟩
    · rw [eR]
      omega
    · have := smU_ins (f := gA P H l a (b + 1) (pm lo).toInt (pm hi).toInt (t + (P k0).toInt - (posC bg P l a b s).toInt)) (h := gA P H l a b (pm lo).toInt (pm hi).toInt t) (k0 := k0) (d := met (H k0).toInt (t + (P k0).toInt - (posC bg P l a b s).toInt)) (n := nv) (by omega) ?_
      · omega
      · intro k hk
        have qz : (P k0).toInt = (pm hi).toInt := congrArg _ q
        unfold gA met
        by_cases w : k = k0
        · rw [w, if_pos rfl, if_neg (by omega)]
          repeat' split
          all_goals omega
        · rw [if_neg w]
          repeat' split
          all_goals omega
  · have qz : ¬ (P k0).toInt = (pm hi).toInt := fun z => q (Int32.toInt_inj.mp z)
    have q6z : (pm lo).toInt = (posC bg P l a b 0).toInt := congrArg _ q6
    have q7z : (pm hi).toInt = (posC bg P l a b 1).toInt := congrArg _ q7
    obtain ⟨b', hb', eb⟩ := hIn k0 (by omega)
    have ebz : (pm b').toInt = (P k0).toInt := congrArg _ eb
    have hlo : hi < b' := by
      rcases Nat.lt_or_ge hi b' with w | w
      · exact w
      · have := pm_le hM w q2
        omega
    have g1 := pm_le hM (show hi + 1 ≤ b' by omega) hb'
    have g2 := pm_lt hM (show hi < hi + 1 by omega) (by omega)
    have e1 : pm (hi + 1) = P k0 := by
      refine Int32.toInt_inj.mp ?_
      rcases hOut (hi + 1) (by omega) with w | ⟨k, hk, w⟩
      · have : (pm (hi + 1)).toInt = bg.toInt := congrArg _ w
        omega
      · have wz : (pm (hi + 1)).toInt = (P k).toInt := congrArg _ w
        have : k0 ≤ k := by
          rcases Nat.lt_or_ge k k0 with u | u
          · have := y2 k (by omega)
            omega
          · exact u
        have := srt_le hC this (by omega)
        omega
    have c1 := cc.2 (by omega)
    unfold tM at c1
    rw [e1] at c1
    have hT := iabs_s (P k0).toInt (posM pm lo hi s').toInt
    have hT1 : iabs ((P k0).toInt - (posM pm lo hi s').toInt) ≤ 1000 := by
      rw [← e1]
      exact iabs_r (hM.2.1 _ (by omega)) (posM_rng hM q1 q2)
    have hmt := mtI_R (pl := pl) (vf := vf) (vh := vh) (p := P k0) (t := (e (atN lo hi s' n')).toInt + iabs ((P k0).toInt - (posM pm lo hi s').toInt)) (A := (pm lo).toInt) (B := (pm hi).toInt) (by omega) (by omega) nv
    have hmt2 := hcn2 (pm lo).toInt (P k0).toInt nv
    have ep : posM pm lo (hi + 1) 1 = P k0 := e1
    have hlk := hLk (P k0) ((e (atN lo hi s' n')).toInt + iabs ((P k0).toInt - (posM pm lo hi s').toInt))
    refine ⟨lo, hi + 1, 1, n' + mtI pl vf vh (P k0) ((e (atN lo hi s' n')).toInt + iabs ((P k0).toInt - (posM pm lo hi s').toInt)) nv, by omega, by omega, by omega, by omega, (ne_of_small (by omega)).1, by rw [eL, q6], by rw [eR, e1], ?_, ?_⟩
    · rw [eR, ep, iabs_0]
      omega
    · rw [hlk, e1]
      have := smU_ins (f := gA P H l a (b + 1) (pm lo).toInt (P k0).toInt (t + (P k0).toInt - (posC bg P l a b s).toInt)) (h := fun k => gA P H l a b (pm lo).toInt (pm hi).toInt t k + cR P H (P k0) ((e (atN lo hi s' n')).toInt + iabs ((P k0).toInt - (posM pm lo hi s').toInt)) k) (k0 := k0) (d := met (H k0).toInt (t + (P k0).toInt - (posC bg P l a b s).toInt)) (n := nv) (by omega) ?_
      · rw [smU_add] at this
        omega
      · intro k hk
        unfold gA met cR
        by_cases w : k = k0
        · rw [w, if_pos rfl, if_neg (by omega), if_pos rfl]
          repeat' split
          all_goals omega
        · rw [if_neg w]
          by_cases u : P k = P k0
          · rw [if_pos u]
            repeat' split
            all_goals omega
          · have uz : ¬ (P k).toInt = (P k0).toInt := fun z => u (Int32.toInt_inj.mp z)
            rw [if_neg u]
            have f1 : l + (b + 1) ≤ k → (P k0).toInt ≤ (P k).toInt := fun z => srt_le hC (by omega) (by omega)
            have f2 : k + a < l → (P k).toInt < bg.toInt := fun z => hC.2.2.2.1 k (by omega)
            repeat' split
            all_goals omega
theorem stA (hC : RdC l r bg P) (hlr : l + r = nv) (hnv : nv ≤ 16) (hM : RdM m pm) (hIn : ∀ k, k < nv → ∃ b, b < m ∧ pm b = P k) (hOut : ∀ b, b < m → pm b = bg ∨ ∃ k, k < nv ∧ pm b = P k) (hLk : LkV P H pl vf vh nv) (hS : SndM m nv pm pl vf (fun _ _ _ _ _ => True) e) (hCl : ∀ lo hi s n, lo ≤ hi → hi < m → s < 2 → n ≤ nv → CloM m nv pm pl vf vh e lo hi s n) : StC l r bg P H (QA m nv l bg P H pm e) := ⟨fun _ _ _ _ _ ha hb _ _ _ _ hq => stA_L hC hlr hnv hM hIn hOut hLk hS hCl ha hb hq, fun _ _ _ _ _ ha hb _ _ _ _ hq => stA_R hC hlr hnv hM hIn hOut hLk hS hCl ha hb hq⟩
theorem qA_0 {b0 : Nat} (hlk : LkV P H pl vf vh nv) (hb : b0 < m) (hp : pm b0 = bg) (he : (e (atN b0 b0 0 (mtI pl vf vh bg 0 nv))).toInt ≤ 0) : QA m nv l bg P H pm e 0 0 0 0 0 := by
  have e1 : posC bg P l 0 0 0 = bg := rfl
  have e2 : posC bg P l 0 0 1 = bg := rfl
  have e3 : posM pm b0 b0 0 = bg := hp
  refine ⟨b0, b0, 0, mtI pl vf vh bg 0 nv, Nat.le_refl _, hb, by omega, mtI_le _ _ _ _ _ _, (ne_of_small (by omega)).1, by rw [e1, hp], by rw [e2, hp], ?_, ?_⟩
  · rw [e1, e3, iabs_0]
    omega
  · rw [hlk, hp, Nat.zero_add]
    refine smU_le nv ?_
    intro k hk
    unfold gA cR
    by_cases u : P k = bg
    · rw [if_pos u]
      repeat' split
      all_goals omega
    · have uz : ¬ (P k).toInt = bg.toInt := fun z => u (Int32.toInt_inj.mp z)
      rw [if_neg u]
      repeat' split
      all_goals omega
end SIA
