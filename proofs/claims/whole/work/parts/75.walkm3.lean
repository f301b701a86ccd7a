section WKO
variable {m nv : Nat} {pm pl vf vh : Nat → Int32} {Q : Nat → Nat → Nat → Nat → Int → Prop}
theorem rx_L {lo hi s n : Nat} {e : Nat → Int32} (hR : RdM m pm) (hnv : nv ≤ 16) (hQ : StM m nv pm pl vf vh Q) (h0 : 0 < lo) (h1 : lo ≤ hi) (h2 : hi < m) (hs : s < 2) (hn : n ≤ 16) (hS : SndM m nv pm pl vf Q e) (hx : ¬ e (atN lo hi s n) = 1000000000) : SndM m nv pm pl vf Q (rxM nv pm pl vf vh lo hi s n (lo - 1) hi 0 (lo - 1) e) ∧ (∀ j, (rxM nv pm pl vf vh lo hi s n (lo - 1) hi 0 (lo - 1) e j).toInt ≤ (e j).toInt) ∧ (∀ lo2 hi2 s2 n2, lo2 ≤ hi2 → hi2 < m → s2 < 2 → n2 ≤ 16 → hi2 - lo2 ≤ hi - lo → rxM nv pm pl vf vh lo hi s n (lo - 1) hi 0 (lo - 1) e (atN lo2 hi2 s2 n2) = e (atN lo2 hi2 s2 n2)) ∧ (rxM nv pm pl vf vh lo hi s n (lo - 1) hi 0 (lo - 1) e (atN (lo - 1) hi 0 (n + mtI pl vf vh (pm (lo - 1)) (tM pm lo hi s (lo - 1) (e (atN lo hi s n)).toInt) nv))).toInt ≤ tM pm lo hi s (lo - 1) (e (atN lo hi s n)).toInt := by
  obtain ⟨c1, c2, c3, c4⟩ := hS lo hi s n h1 h2 hs hn hx
  have h17 := hR.1
  obtain ⟨t1, t2, t3⟩ := abs_t (x := e (atN lo hi s n)) (y := pm (lo - 1)) (z := posM pm lo hi s) ⟨c2, by omega⟩ (hR.2.1 _ (by omega)) (posM_rng (s := s) hR h1 h2)
  have et : (e (atN lo hi s n) + absI (pm (lo - 1) - posM pm lo hi s)).toInt = tM pm lo hi s (lo - 1) (e (atN lo hi s n)).toInt := t1
  have hmt := mt_L (pl := pl) (vf := vf) (vh := vh) (p := pm (lo - 1)) (h := e (atN lo hi s n) + absI (pm (lo - 1) - posM pm lo hi s)) (A := (pm lo).toInt) (B := (pm hi).toInt) (pm_lt hR (by omega) (by omega)) (pm_le hR (by omega) h2) nv
  have hmt2 := cnI_le (PV pl vf) (pm (lo - 1)).toInt (pm hi).toInt nv
  have hcn : n + mtF pl vf vh (pm (lo - 1)) (e (atN lo hi s n) + absI (pm (lo - 1) - posM pm lo hi s)) nv ≤ cnI (PV pl vf) (pm (lo - 1)).toInt (pm hi).toInt nv := by
    have e1 : PV pl vf = (fun k => (pl (vf k).toNatClampNeg).toInt) := rfl
    rw [e1] at c4 ⊢
    omega
  unfold rxM
  rw [mtF_I, et] at hcn ⊢
  have hq := hQ.1 lo hi s n _ h0 h1 h2 hs c2 c1
  unfold tM at *
  generalize hT : (e (atN lo hi s n)).toInt + iabs ((pm (lo - 1)).toInt - (posM pm lo hi s).toInt) = T at *
  generalize e (atN lo hi s n) + absI (pm (lo - 1) - posM pm lo hi s) = t at *
  generalize hk : n + mtI pl vf vh (pm (lo - 1)) T nv = k at *
  refine ⟨?_, fun j => rel_le _ _ _ _, ?_, ?_⟩
  · intro lo2 hi2 s2 n2 a1 a2 a3 a4 hne
    rcases rel_or e (atN (lo - 1) hi 0 k) t (atN lo2 hi2 s2 n2) with z | ⟨z, z2⟩
    · rw [z] at hne ⊢
      exact hS lo2 hi2 s2 n2 a1 a2 a3 a4 hne
    · obtain ⟨x1, x2, x3, x4⟩ := at_inj (by omega) (by omega) a3 (by omega) a4 (by omega) z
      rw [z2, et, x1, x2, x3, x4]
      exact ⟨hq, by omega, by omega, hcn⟩
  · intro lo2 hi2 s2 n2 a1 a2 a3 a4 hw
    refine rel_ne ?_
    intro z
    obtain ⟨x1, x2, x3, x4⟩ := at_inj (by omega) (by omega) a3 (by omega) a4 (by omega) z
    omega
  · exact Int.le_trans (rel_at _ _ _) (Int.le_of_eq et)
theorem rx_R {lo hi s n : Nat} {e : Nat → Int32} (hR : RdM m pm) (hnv : nv ≤ 16) (hQ : StM m nv pm pl vf vh Q) (h1 : lo ≤ hi) (h2 : hi + 1 < m) (hs : s < 2) (hn : n ≤ 16) (hS : SndM m nv pm pl vf Q e) (hx : ¬ e (atN lo hi s n) = 1000000000) : SndM m nv pm pl vf Q (rxM nv pm pl vf vh lo hi s n lo (hi + 1) 1 (hi + 1) e) ∧ (∀ j, (rxM nv pm pl vf vh lo hi s n lo (hi + 1) 1 (hi + 1) e j).toInt ≤ (e j).toInt) ∧ (∀ lo2 hi2 s2 n2, lo2 ≤ hi2 → hi2 < m → s2 < 2 → n2 ≤ 16 → hi2 - lo2 ≤ hi - lo → rxM nv pm pl vf vh lo hi s n lo (hi + 1) 1 (hi + 1) e (atN lo2 hi2 s2 n2) = e (atN lo2 hi2 s2 n2)) ∧ (rxM nv pm pl vf vh lo hi s n lo (hi + 1) 1 (hi + 1) e (atN lo (hi + 1) 1 (n + mtI pl vf vh (pm (hi + 1)) (tM pm lo hi s (hi + 1) (e (atN lo hi s n)).toInt) nv))).toInt ≤ tM pm lo hi s (hi + 1) (e (atN lo hi s n)).toInt := by
  obtain ⟨c1, c2, c3, c4⟩ := hS lo hi s n h1 (by omega) hs hn hx
  have h17 := hR.1
  obtain ⟨t1, t2, t3⟩ := abs_t (x := e (atN lo hi s n)) (y := pm (hi + 1)) (z := posM pm lo hi s) ⟨c2, by omega⟩ (hR.2.1 _ (by omega)) (posM_rng (s := s) hR h1 (by omega))
  have et : (e (atN lo hi s n) + absI (pm (hi + 1) - posM pm lo hi s)).toInt = tM pm lo hi s (hi + 1) (e (atN lo hi s n)).toInt := t1
  have hmt := mt_R (pl := pl) (vf := vf) (vh := vh) (p := pm (hi + 1)) (h := e (atN lo hi s n) + absI (pm (hi + 1) - posM pm lo hi s)) (A := (pm lo).toInt) (B := (pm hi).toInt) (pm_le hR (by omega) (by omega)) (pm_lt hR (by omega) h2) nv
  have hmt2 := cnI_le (PV pl vf) (pm lo).toInt (pm (hi + 1)).toInt nv
  have hcn : n + mtF pl vf vh (pm (hi + 1)) (e (atN lo hi s n) + absI (pm (hi + 1) - posM pm lo hi s)) nv ≤ cnI (PV pl vf) (pm lo).toInt (pm (hi + 1)).toInt nv := by
    have e1 : PV pl vf = (fun k => (pl (vf k).toNatClampNeg).toInt) := rfl
    rw [e1] at c4 ⊢
    omega
  unfold rxM
  rw [mtF_I, et] at hcn ⊢
  have hq := hQ.2 lo hi s n _ h1 h2 hs c2 c1
  unfold tM at *
  generalize hT : (e (atN lo hi s n)).toInt + iabs ((pm (hi + 1)).toInt - (posM pm lo hi s).toInt) = T at *
  generalize e (atN lo hi s n) + absI (pm (hi + 1) - posM pm lo hi s) = t at *
  generalize hk : n + mtI pl vf vh (pm (hi + 1)) T nv = k at *
  refine ⟨?_, fun j => rel_le _ _ _ _, ?_, ?_⟩
  · intro lo2 hi2 s2 n2 a1 a2 a3 a4 hne
    rcases rel_or e (atN lo (hi + 1) 1 k) t (atN lo2 hi2 s2 n2) with z | ⟨z, z2⟩
    · rw [z] at hne ⊢
      exact hS lo2 hi2 s2 n2 a1 a2 a3 a4 hne
    · obtain ⟨x1, x2, x3, x4⟩ := at_inj (by omega) (by omega) a3 (by omega) a4 (by omega) z
      rw [z2, et, x1, x2, x3, x4]
      exact ⟨hq, by omega, by omega, hcn⟩
  · intro lo2 hi2 s2 n2 a1 a2 a3 a4 hw
    refine rel_ne ?_
    intro z
    obtain ⟨x1, x2, x3, x4⟩ := at_inj (by omega) (by omega) a3 (by omega) a4 (by omega) z
    omega
  · exact Int.le_trans (rel_at _ _ _) (Int.le_of_eq et)
end WKO
