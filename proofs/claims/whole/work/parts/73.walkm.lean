section WKM
theorem at_inj {lo hi s n lo' hi' s' n' : Nat} (h1 : hi ≤ 16) (h1' : hi' ≤ 16) (hs : s < 2) (hs' : s' < 2) (hn : n ≤ 16) (hn' : n' ≤ 16) (h : atN lo hi s n = atN lo' hi' s' n') : lo = lo' ∧ hi = hi' ∧ s = s' ∧ n = n' := by
  unfold atN at h
  omega
def posM (pm : Nat → Int32) (lo hi s : Nat) : Int32 := pm (if s = 0 then lo else hi)
def RdM (m : Nat) (pm : Nat → Int32) : Prop := m ≤ 17 ∧ (∀ k, k < m → rng 0 1000 (pm k)) ∧ (∀ k, k + 1 < m → (pm k).toInt < (pm (k + 1)).toInt)
def iabs (x : Int) : Int := if 0 ≤ x then x else -x
theorem abs_t {x y z : Int32} (hx : 0 ≤ x.toInt ∧ x.toInt ≤ 100000) (hy : rng 0 1000 y) (hz : rng 0 1000 z) : (x + absI (y - z)).toInt = x.toInt + iabs (y.toInt - z.toInt) ∧ 0 ≤ iabs (y.toInt - z.toInt) ∧ iabs (y.toInt - z.toInt) ≤ 1000 := by
  obtain ⟨y1, y2⟩ := hy
  obtain ⟨z1, z2⟩ := hz
  have e1 : (y - z).toInt = y.toInt - z.toInt := by
    rw [Int32.toInt_sub]
    exact Int.bmod_eq_of_le (by omega) (by omega)
  have l0 : 0 ≤ y - z ↔ 0 ≤ y.toInt - z.toInt := by
    rw [Int32.le_iff_toInt_le, e1, show (0 : Int32).toInt = 0 by decide]
  have e2 : (absI (y - z)).toInt = iabs (y.toInt - z.toInt) := by
    unfold absI iabs
    by_cases q : 0 ≤ y - z
    · rw [if_pos q, e1]
      rw [l0] at q
      rw [if_pos q]
    · rw [if_neg q]
      rw [l0] at q
      rw [if_neg q, Int32.toInt_neg, e1]
      exact Int.bmod_eq_of_le (by omega) (by omega)
  have b : 0 ≤ iabs (y.toInt - z.toInt) ∧ iabs (y.toInt - z.toInt) ≤ 1000 := by
    unfold iabs
    split <;> omega
  refine ⟨?_, b⟩
  rw [Int32.toInt_add, e2]
  exact Int.bmod_eq_of_le (by omega) (by omega)
/-- how many visits lie between -/
def cnI (P : Nat → Int) (A B : Int) : Nat → Nat
  | 0 => 0
  | k + 1 => cnI P A B k + (if A ≤ P k ∧ P k ≤ B then 1 else 0)
theorem cnI_le (P : Nat → Int) (A B : Int) : ∀ n, cnI P A B n ≤ n
  | 0 => Nat.le_refl _
  | n + 1 => by
    have := cnI_le P A B n
    rw [cnI]
    split <;> omega
theorem mt_L {pl vf vh : Nat → Int32} {p h : Int32} {A B : Int} (hA : p.toInt < A) (hB : p.toInt ≤ B) : ∀ n, mtF pl vf vh p h n + cnI (fun k => (pl (vf k).toNatClampNeg).toInt) A B n ≤ cnI (fun k => (pl (vf k).toNatClampNeg).toInt) p.toInt B n
  | 0 => Nat.le_refl _
  | n + 1 => by
    have ih := mt_L (pl := pl) (vf := vf) (vh := vh) (h := h) hA hB n
    rw [mtF, cnI, cnI]
    by_cases q : pl (vf n).toNatClampNeg = p
    · have qz : (pl (vf n).toNatClampNeg).toInt = p.toInt := congrArg _ q
      rw [if_pos q]
      generalize (pl (vf n).toNatClampNeg).toInt = y at *
      by_cases w : vh n < h
      · rw [if_pos w]
        repeat' split
        all_goals omega
      · rw [if_neg w]
        repeat' split
        all_goals omega
    · rw [if_neg q]
      generalize (pl (vf n).toNatClampNeg).toInt = y at *
      repeat' split
      all_goals omega
theorem mt_R {pl vf vh : Nat → Int32} {p h : Int32} {A B : Int} (hA : A ≤ p.toInt) (hB : B < p.toInt) : ∀ n, mtF pl vf vh p h n + cnI (fun k => (pl (vf k).toNatClampNeg).toInt) A B n ≤ cnI (fun k => (pl (vf k).toNatClampNeg).toInt) A p.toInt n
  | 0 => Nat.le_refl _
  | n + 1 => by
    have ih := mt_R (pl := pl) (vf := vf) (vh := vh) (h := h) hA hB n
    rw [mtF, cnI, cnI]
    by_cases q : pl (vf n).toNatClampNeg = p
    · have qz : (pl (vf n).toNatClampNeg).toInt = p.toInt := congrArg _ q
      rw [if_pos q]
      generalize (pl (vf n).toNatClampNeg).toInt = y at *
      by_cases w : vh n < h
      · rw [if_pos w]
        repeat' split
        all_goals omega
      · rw [if_neg w]
        repeat' split
        all_goals omega
    · rw [if_neg q]
      generalize (pl (vf n).toNatClampNeg).toInt = y at *
      repeat' split
      all_goals omega
theorem mt_0 {pl vf vh : Nat → Int32} {p h : Int32} : ∀ n, mtF pl vf vh p h n ≤ cnI (fun k => (pl (vf k).toNatClampNeg).toInt) p.toInt p.toInt n
  | 0 => Nat.le_refl _
  | n + 1 => by
    have ih := mt_0 (pl := pl) (vf := vf) (vh := vh) (p := p) (h := h) n
    rw [mtF, cnI]
    by_cases q : pl (vf n).toNatClampNeg = p
    · have qz : (pl (vf n).toNatClampNeg).toInt = p.toInt := congrArg _ q
      rw [if_pos q]
      generalize (pl (vf n).toNatClampNeg).toInt = y at *
      by_cases w : vh n < h
      · rw [if_pos w]
        repeat' split
        all_goals omega
      · rw [if_neg w]
        repeat' split
        all_goals omega
    · rw [if_neg q]
      generalize (pl (vf n).toNatClampNeg).toInt = y at *
      repeat' split
      all_goals omega
theorem wdT_e (lo' hi' s' n q nv : Nat) (from' was : Int32) (X : St) : (wdT lo' hi' s' n q nv from' was X).2.1 47 = rel (X.2.1 47) (atN lo' hi' s' (n + mtF (X.2.1 25) (X.2.1 44) (X.2.1 45) (X.2.1 46 q) (was + absI (X.2.1 46 q - from')) nv)) (was + absI (X.2.1 46 q - from')) := by
  show upd (X.2.1 47) _ (if X.2.1 47 _ ≤ _ then _ else _) = _
  unfold rel
  congr 1
  generalize X.2.1 47 _ = y
  generalize was + absI (X.2.1 46 q - from') = h
  by_cases z : y ≤ h
  · rw [if_pos z]
    rw [Int32.le_iff_toInt_le] at z
    rw [if_neg (by rw [Int32.lt_iff_toInt_lt]; omega)]
  · rw [if_neg z]
    rw [Int32.le_iff_toInt_le] at z
    rw [if_pos (by rw [Int32.lt_iff_toInt_lt]; omega)]
end WKM
