section WKN
variable {m nv : Nat} {pm pl vf vh : Nat → Int32} {Q : Nat → Nat → Nat → Nat → Int → Prop}
def mtI (pl vf vh : Nat → Int32) (p : Int32) (t : Int) : Nat → Nat
  | 0 => 0
  | k + 1 => mtI pl vf vh p t k + (if pl (vf k).toNatClampNeg = p then (if (vh k).toInt < t then 0 else 1) else 0)
theorem mtF_I (pl vf vh : Nat → Int32) (p h : Int32) : ∀ n, mtF pl vf vh p h n = mtI pl vf vh p h.toInt n
  | 0 => rfl
  | n + 1 => by
    rw [mtF, mtI, mtF_I pl vf vh p h n]
    congr 1
    by_cases q : pl (vf n).toNatClampNeg = p
    · rw [if_pos q, if_pos q]
      by_cases w : vh n < h
      · rw [if_pos w]
        rw [Int32.lt_iff_toInt_lt] at w
        rw [if_pos w]
      · rw [if_neg w]
        rw [Int32.lt_iff_toInt_lt] at w
        rw [if_neg w]
    · rw [if_neg q, if_neg q]
def tM (pm : Nat → Int32) (lo hi s q : Nat) (t : Int) : Int := t + iabs ((pm q).toInt - (posM pm lo hi s).toInt)
def PV (pl vf : Nat → Int32) (k : Nat) : Int := (pl (vf k).toNatClampNeg).toInt
def StM (m nv : Nat) (pm pl vf vh : Nat → Int32) (Q : Nat → Nat → Nat → Nat → Int → Prop) : Prop := (∀ (lo hi s n : Nat) (t : Int), 0 < lo → lo ≤ hi → hi < m → s < 2 → 0 ≤ t → Q lo hi s n t → Q (lo - 1) hi 0 (n + mtI pl vf vh (pm (lo - 1)) (tM pm lo hi s (lo - 1) t) nv) (tM pm lo hi s (lo - 1) t)) ∧ (∀ (lo hi s n : Nat) (t : Int), lo ≤ hi → hi + 1 < m → s < 2 → 0 ≤ t → Q lo hi s n t → Q lo (hi + 1) 1 (n + mtI pl vf vh (pm (hi + 1)) (tM pm lo hi s (hi + 1) t) nv) (tM pm lo hi s (hi + 1) t))
def SndM (m nv : Nat) (pm pl vf : Nat → Int32) (Q : Nat → Nat → Nat → Nat → Int → Prop) (e : Nat → Int32) : Prop := ∀ lo hi s n, lo ≤ hi → hi < m → s < 2 → n ≤ 16 → ¬ e (atN lo hi s n) = 1000000000 → Q lo hi s n (e (atN lo hi s n)).toInt ∧ 0 ≤ (e (atN lo hi s n)).toInt ∧ (e (atN lo hi s n)).toInt ≤ 1000 * (hi - lo : Nat) ∧ n ≤ cnI (PV pl vf) (pm lo).toInt (pm hi).toInt nv
def CloM (m nv : Nat) (pm pl vf vh : Nat → Int32) (e : Nat → Int32) (lo hi s n : Nat) : Prop := ¬ e (atN lo hi s n) = 1000000000 → (0 < lo → (e (atN (lo - 1) hi 0 (n + mtI pl vf vh (pm (lo - 1)) (tM pm lo hi s (lo - 1) (e (atN lo hi s n)).toInt) nv))).toInt ≤ tM pm lo hi s (lo - 1) (e (atN lo hi s n)).toInt) ∧ (hi + 1 < m → (e (atN lo (hi + 1) 1 (n + mtI pl vf vh (pm (hi + 1)) (tM pm lo hi s (hi + 1) (e (atN lo hi s n)).toInt) nv))).toInt ≤ tM pm lo hi s (hi + 1) (e (atN lo hi s n)).toInt)
def InvM (m nv : Nat) (pm pl vf vh : Nat → Int32) (Q : Nat → Nat → Nat → Nat → Int → Prop) (Pr : Nat → Nat → Nat → Nat → Prop) (e : Nat → Int32) : Prop := SndM m nv pm pl vf Q e ∧ ∀ lo hi s n, lo ≤ hi → hi < m → s < 2 → n ≤ nv → Pr lo hi s n → CloM m nv pm pl vf vh e lo hi s n
theorem pm_le {k k' : Nat} (h : RdM m pm) (hk : k ≤ k') (hk' : k' < m) : (pm k).toInt ≤ (pm k').toInt := by
  induction k' with
  | zero =>
    have : k = 0 := by omega
    rw [this]
    exact Int.le_refl _
  | succ k' ih =>
    rcases Nat.lt_or_ge k (k' + 1) with q | q
    · have := ih (by omega) (by omega)
      have := h.2.2 k' hk'
      omega
    · have : k = k' + 1 := by omega
      rw [this]
      exact Int.le_refl _
theorem pm_lt {k k' : Nat} (h : RdM m pm) (hk : k < k') (hk' : k' < m) : (pm k).toInt < (pm k').toInt := by
  have h1 := pm_le h (show k + 1 ≤ k' by omega) hk'
  have h2 := h.2.2 k (by omega)
  omega
theorem posM_rng {lo hi s : Nat} (h : RdM m pm) (h1 : lo ≤ hi) (h2 : hi < m) : rng 0 1000 (posM pm lo hi s) := by
  unfold posM
  split
  · exact h.2.1 _ (by omega)
  · exact h.2.1 _ h2
/-- one relaxation of the model's table -/
def rxM (nv : Nat) (pm pl vf vh : Nat → Int32) (lo hi s n lo' hi' s' q : Nat) (e : Nat → Int32) : Nat → Int32 := rel e (atN lo' hi' s' (n + mtF pl vf vh (pm q) (e (atN lo hi s n) + absI (pm q - posM pm lo hi s)) nv)) (e (atN lo hi s n) + absI (pm q - posM pm lo hi s))
theorem wk_e {lo hi s n : Nat} {X : St} (hP : X.2.1 46 = pm) (hF : X.2.1 25 = pl) (hV : X.2.1 44 = vf) (hH : X.2.1 45 = vh) (hx : ¬ X.2.1 47 (atN lo hi s n) = 1000000000) : (wdL nv lo hi s n X).2.1 47 = (if lo = 0 then X.2.1 47 else rxM nv pm pl vf vh lo hi s n (lo - 1) hi 0 (lo - 1) (X.2.1 47)) ∧ (wdR m nv lo hi s n X).2.1 47 = (if hi + 1 = m then X.2.1 47 else rxM nv pm pl vf vh lo hi s n lo (hi + 1) 1 (hi + 1) (X.2.1 47)) := by
  unfold wdL wdR rxM posM
  rw [if_neg hx, if_neg hx]
  constructor
  · by_cases q : lo = 0
    · rw [if_pos q, if_pos q]
    · rw [if_neg q, if_neg q, wdT_e, hP, hF, hV, hH]
  · by_cases q : hi + 1 = m
    · rw [if_pos q, if_pos q]
    · rw [if_neg q, if_neg q, wdT_e, hP, hF, hV, hH]
end WKN
