section RDB
variable {li la ll lb : List Nat} {X Y S : St}
theorem eqA.fr (h1 : 16 ∈ la) (h2 : 17 ∈ la) (e : eqA X Y) (h : Fr li la ll lb Y S) : Fr li la ll lb X S := ⟨fun n hn => (congrFun e.1 n).trans (h.1 n hn), fun n hn => (e.2.2 n (mem_ne h1 hn) (mem_ne h2 hn)).trans (h.2.1 n hn), fun n hn => (congrArg (fun z => z.1 n) e.2.1).trans (h.2.2.1 n hn), fun n hn => (congrArg (fun z => z.2.1 n) e.2.1).trans (h.2.2.2.1 n hn), fun n hn => (congrArg (fun z => z.2.2 n) e.2.1).trans (h.2.2.2.2 n hn)⟩
theorem eqE.fr (h1 : 47 ∈ la) (e : eqE X Y) (h : Fr li la ll lb Y S) : Fr li la ll lb X S := ⟨fun n hn => (congrFun e.1 n).trans (h.1 n hn), fun n hn => (e.2.2 n (mem_ne h1 hn)).trans (h.2.1 n hn), fun n hn => (congrArg (fun z => z.1 n) e.2.1).trans (h.2.2.1 n hn), fun n hn => (congrArg (fun z => z.2.1 n) e.2.1).trans (h.2.2.2.1 n hn), fun n hn => (congrArg (fun z => z.2.2 n) e.2.1).trans (h.2.2.2.2 n hn)⟩
theorem eqPl.fr (h0 : 38 ∈ li) (h1 : 46 ∈ la) (e : eqPl X Y) (h : Fr li la ll lb Y S) : Fr li la ll lb X S := ⟨fun n hn => (e.1 n (mem_ne h0 hn)).trans (h.1 n hn), fun n hn => (e.2.1 n (mem_ne h1 hn)).trans (h.2.1 n hn), fun n hn => (congrArg (fun z => z.1 n) e.2.2).trans (h.2.2.1 n hn), fun n hn => (congrArg (fun z => z.2.1 n) e.2.2).trans (h.2.2.2.1 n hn), fun n hn => (congrArg (fun z => z.2.2 n) e.2.2).trans (h.2.2.2.2 n hn)⟩
theorem walkS_fr (p : Int32) (n : Nat) (S : St) : Fr [13, 14, 15] [16, 17] [] [] (walkS p n S) S := by
  have h0 : Fr [13, 14, 15] [16, 17] [] [] (walk0 p n S) S := by
    unfold walk0
    dsimp only
    exact Fr.A (by decide) (Fr.A (by decide) (Fr.A (by decide) (Fr.I (by decide) (Fr.I (by decide) (Fr.I (by decide) Fr.rf)))))
  have e : eqA (walkS p n S) (walk0 p n S) := eqA.it (goA_eq _ _) _ _
  exact eqA.fr (by decide) (by decide) e h0
theorem walkM_fr (p : Int32) (n : Nat) (S : St) : Fr [38] [46, 47] [] [] (walkM p n S) S := by
  have h0 : Fr [38] [46, 47] [] [] (setI S 38 0) S := Fr.I (by decide) Fr.rf
  have h1 : Fr [38] [46, 47] [] [] (it apB n (pl0 p S)).1 S := eqPl.fr (by decide) (by decide) ((apB_eqs n (pl0 p S)).tr (addP_eq 0 p (setI S 38 0))) h0
  unfold walkM
  dsimp only
  refine eqE.fr (by decide) (eqE.it (wkW_eq _ n) _ _) ?_
  unfold wk3
  dsimp only
  exact Fr.A (by decide) (Fr.A (by decide) h1)
theorem th_fr (S : St) : Fr [20] [] [] [] (th S) S := Fr.I (by decide) Fr.rf
def liW : List Nat := [13, 14, 15, 20, 38]
def laW : List Nat := [16, 17, 46, 47]
theorem wC_fr (p : Int32) (n : Nat) (S : St) : Fr liW laW [] [] (walkS p n S) S := Fr.wi (walkS_fr p n S) (by decide) (by decide) (fun n q => q) (fun n q => q)
theorem wM_fr (p : Int32) (n : Nat) (T : St) (h : Fr liW laW [] [] T S) : Fr liW laW [] [] (walkM p n (th T)) S := (Fr.wi (walkM_fr p n (th T)) (by decide) (by decide) (fun n q => q) (fun n q => q)).tr (Fr.I (by decide) h)
theorem most_fr (nv : Nat) (p : Int32) (S : St) : Fr liW laW [] [] (mostM nv p (mostC nv p S).2).2 S := by
  have h1 : Fr liW laW [] [] (mostC nv p S).2 S := by
    unfold mostC
    split
    · exact Fr.rf
    · exact wC_fr p nv S
  unfold mostM
  split
  · exact Fr.I (by decide) h1
  · exact wM_fr p nv _ h1
theorem least_fr (nv : Nat) (p n : Int32) (S : St) : Fr liW laW [] [] (leastM nv p n (leastC nv p n S).2).2 S := by
  have h1 : Fr liW laW [] [] (leastC nv p n S).2 S := by
    unfold leastC
    split
    · exact Fr.rf
    · split
      · exact Fr.rf
      · exact wC_fr p nv S
  unfold leastM
  split
  · exact Fr.I (by decide) h1
  · split
    · exact Fr.I (by decide) h1
    · exact wM_fr p nv _ h1
section
variable {h e : Nat → Int32} {nv m : Nat} (hA : ∀ c, c ≤ nv → ¬ h c = 1000000 → (h c).toInt ≤ 100000 ∧ ∃ lo hi s n, lo ≤ hi ∧ hi < m ∧ s < 2 ∧ c ≤ n ∧ n ≤ nv ∧ (e (atN lo hi s n)).toInt ≤ (h c).toInt) (hB : ∀ lo hi s n, lo ≤ hi → hi < m → s < 2 → n ≤ nv → ¬ e (atN lo hi s n) = 1000000000 → ∃ c, n ≤ c ∧ c ≤ nv ∧ (h c).toInt ≤ 100000 ∧ (h c).toInt ≤ (e (atN lo hi s n)).toInt)
theorem lv_A {c n : Nat} (hA : ∀ c, c ≤ nv → ¬ h c = 1000000 → (h c).toInt ≤ 100000 ∧ ∃ lo hi s n, lo ≤ hi ∧ hi < m ∧ s < 2 ∧ c ≤ n ∧ n ≤ nv ∧ (e (atN lo hi s n)).toInt ≤ (h c).toInt) (hc : c ≤ nv) (hn : n ≤ c) (q : ¬ h c = 1000000) : (leastV e nv m n).toInt ≤ (h c).toInt ∧ (h c).toInt ≤ 100000 := by
  obtain ⟨a1, lo, hi, s, k, a2, a3, a4, a5, a6, a7⟩ := hA c hc q
  have := leastV_le (e := e) a2 a3 a4 (show n ≤ k by omega) a6
  exact ⟨by omega, a1⟩
theorem lv_B {n : Nat} (hB : ∀ lo hi s n, lo ≤ hi → hi < m → s < 2 → n ≤ nv → ¬ e (atN lo hi s n) = 1000000000 → ∃ c, n ≤ c ∧ c ≤ nv ∧ (h c).toInt ≤ 100000 ∧ (h c).toInt ≤ (e (atN lo hi s n)).toInt) (q : ¬ leastV e nv m n = 1000000000) : ∃ c, n ≤ c ∧ c ≤ nv ∧ (h c).toInt ≤ 100000 ∧ (h c).toInt ≤ (leastV e nv m n).toInt := by
  rcases leastV_or e nv m n with z | ⟨lo, hi, s, k, a1, a2, a3, a4, a5, a6⟩
  · exact absurd z q
  · rw [a6] at q
    obtain ⟨c, b1, b2, b3, b4⟩ := hB lo hi s k a1 a2 a3 a5 q
    exact ⟨c, by omega, b2, b3, by rw [a6]; exact b4⟩
theorem mo_eq (hA : ∀ c, c ≤ nv → ¬ h c = 1000000 → (h c).toInt ≤ 100000 ∧ ∃ lo hi s n, lo ≤ hi ∧ hi < m ∧ s < 2 ∧ c ≤ n ∧ n ≤ nv ∧ (e (atN lo hi s n)).toInt ≤ (h c).toInt) (hB : ∀ lo hi s n, lo ≤ hi → hi < m → s < 2 → n ≤ nv → ¬ e (atN lo hi s n) = 1000000000 → ∃ c, n ≤ c ∧ c ≤ nv ∧ (h c).toInt ≤ 100000 ∧ (h c).toInt ≤ (e (atN lo hi s n)).toInt) : ∀ k, k ≤ nv → (∀ j, k < j → j ≤ nv → h j = 1000000) → moM e nv m k = mostF h k
  | 0, _, _ => rfl
  | k + 1, hk, hj => by
    rw [moM, mostF]
    by_cases q : h (k + 1) = 1000000
    · have z : leastV e nv m (k + 1) = 1000000000 := by
        by_cases z : leastV e nv m (k + 1) = 1000000000
        · exact z
        · obtain ⟨c, b1, b2, b3, b4⟩ := lv_B hB z
          have w := (ne_of_small b3).2
          by_cases y : c = k + 1
          · rw [y] at w
            exact absurd q w
          · exact absurd (hj c (by omega) b2) w
      rw [if_pos z, if_pos q]
      refine mo_eq hA hB k (by omega) (fun j j1 j2 => ?_)
      by_cases y : j = k + 1
      · rw [y]
        exact q
      · exact hj j (by omega) j2
    · obtain ⟨a1, a2⟩ := lv_A hA hk (Nat.le_refl _) q
      rw [if_neg (ne_of_small (by omega)).1, if_neg q]
theorem lv_eq {n : Nat} (hn : n ≤ nv) (hA : ∀ c, c ≤ nv → ¬ h c = 1000000 → (h c).toInt ≤ 100000 ∧ ∃ lo hi s n, lo ≤ hi ∧ hi < m ∧ s < 2 ∧ c ≤ n ∧ n ≤ nv ∧ (e (atN lo hi s n)).toInt ≤ (h c).toInt) (hB : ∀ lo hi s n, lo ≤ hi → hi < m → s < 2 → n ≤ nv → ¬ e (atN lo hi s n) = 1000000000 → ∃ c, n ≤ c ∧ c ≤ nv ∧ (h c).toInt ≤ 100000 ∧ (h c).toInt ≤ (e (atN lo hi s n)).toInt) : (if fhF h (nv + 1 - n) n 1000000 = 1000000 then -1 else fhF h (nv + 1 - n) n 1000000) = (if leastV e nv m n = 1000000000 then -1 else leastV e nv m n) := by
  obtain ⟨f1, f2, f3⟩ := fhF_f h (nv + 1 - n) n 1000000
  generalize fhF h (nv + 1 - n) n 1000000 = fh at *
  have hlA : ¬ fh = 1000000 → (leastV e nv m n).toInt ≤ fh.toInt ∧ fh.toInt ≤ 100000 := by
    intro q
    rcases f3 with z | ⟨j, j1, j2, j3⟩
    · exact absurd z q
    · rw [j3] at q ⊢
      exact lv_A hA (by omega) j1 q
  have hlB : ¬ leastV e nv m n = 1000000000 → fh.toInt ≤ (leastV e nv m n).toInt ∧ fh.toInt ≤ 100000 := by
    intro q
    obtain ⟨c, b1, b2, b3, b4⟩ := lv_B hB q
    have := f2 c b1 (by omega)
    exact ⟨by omega, by omega⟩
  generalize leastV e nv m n = lv at *
  by_cases q : lv = 1000000000
  · rw [if_pos q]
    by_cases w : fh = 1000000
    · rw [if_pos w]
    · obtain ⟨a1, a2⟩ := hlA w
      exact absurd q (ne_of_small (by omega)).1
  · obtain ⟨b1, b2⟩ := hlB q
    have w := (ne_of_small b2).2
    obtain ⟨a1, a2⟩ := hlA w
    rw [if_neg q, if_neg w]
    exact Int32.toInt_inj.mp (by omega)
end
theorem wS_keep {p : Int32} {n : Nat} {S : St} : (th (walkS p n S)).2.1 25 = S.2.1 25 ∧ (th (walkS p n S)).2.1 44 = S.2.1 44 ∧ (th (walkS p n S)).2.1 45 = S.2.1 45 ∧ (th (walkS p n S)).1 37 = S.1 37 := by
  have h := (th_fr (walkS p n S))
  have k := walkS_fr p n S
  exact ⟨(h.2.1 _ (by decide)).trans (k.2.1 _ (by decide)), (h.2.1 _ (by decide)).trans (k.2.1 _ (by decide)), (h.2.1 _ (by decide)).trans (k.2.1 _ (by decide)), (h.1 _ (by decide)).trans (k.1 _ (by decide))⟩
/-- most: the same answer -/
theorem s_most {nf nv : Nat} {p : Int32} {S : St} (hF : RF S nf) (hv : RVi S nf nv) : (mostC nv p S).1 = (mostM nv p (mostC nv p S).2).1 := by
  by_cases q1 : outB p 0 1000 = true
  · unfold mostC mostM
    rw [if_pos q1, if_pos q1]
  · have e1 : mostC nv p S = (nI (mostF ((walkS p nv S).2.1 17) nv), walkS p nv S) := by
      unfold mostC
      rw [if_neg q1]
    have e2 : (mostM nv p (walkS p nv S)).1 = nI (moM ((walkM p nv (th (walkS p nv S))).2.1 47) nv (plN p nv (th (walkS p nv S))) nv) := by
      unfold mostM
      rw [if_neg q1]
    rw [e1, e2]
    obtain ⟨k1, k2, k3, k4⟩ := wS_keep (p := p) (n := nv) (S := S)
    obtain ⟨hA, hB⟩ := road_AB (S' := th (walkS p nv S)) (rng_of q1) hF hv k1 k2 k3 k4
    rw [mo_eq hA hB nv (Nat.le_refl _) (fun j a b => by omega)]
theorem s_least {nf nv : Nat} {p n : Int32} {S : St} (hF : RF S nf) (hv : RVi S nf nv) : (leastC nv p n S).1 = (leastM nv p n (leastC nv p n S).2).1 := by
  by_cases q1 : outB p 0 1000 = true
  · unfold leastC leastM
    rw [if_pos q1, if_pos q1]
  · by_cases q2 : outB n 0 (nI nv) = true
    · unfold leastC leastM
      rw [if_neg q1, if_neg q1, if_pos q2, if_pos q2]
    · have h16 := hv.1
      have q3 : outB n 0 (nI nv) = false := by cases hq : outB n 0 (nI nv); rfl; exact absurd hq q2
      obtain ⟨j, hj, ej⟩ := outB_rng (nI_toInt (by omega)) q3
      have hcl : n.toNatClampNeg = j := by rw [ej]; exact nI_clamp (by omega)
      have e1 : leastC nv p n S = (if fhF ((walkS p nv S).2.1 17) (nv + 1 - j) j 1000000 = 1000000 then -1 else fhF ((walkS p nv S).2.1 17) (nv + 1 - j) j 1000000, walkS p nv S) := by
        unfold leastC
        rw [if_neg q1, if_neg q2, hcl]
      have e2 : (leastM nv p n (walkS p nv S)).1 = (if leastV ((walkM p nv (th (walkS p nv S))).2.1 47) nv (plN p nv (th (walkS p nv S))) j = 1000000000 then -1 else leastV ((walkM p nv (th (walkS p nv S))).2.1 47) nv (plN p nv (th (walkS p nv S))) j) := by
        unfold leastM
        rw [if_neg q1, if_neg q2, hcl]
      rw [e1, e2]
      obtain ⟨k1, k2, k3, k4⟩ := wS_keep (p := p) (n := nv) (S := S)
      obtain ⟨hA, hB⟩ := road_AB (S' := th (walkS p nv S)) (rng_of q1) hF hv k1 k2 k3 k4
      exact lv_eq hj hA hB
theorem shS_f (k : Nat) (X : St) : (shS k X).2.1 14 = upd (X.2.1 14) (k + 1) (X.2.1 14 k) ∧ (shS k X).2.1 15 = upd (X.2.1 15) (k + 1) (X.2.1 15 k) ∧ Fr [] [14, 15] [] [] (shS k X) X := ⟨rfl, rfl, Fr.A (by decide) (Fr.A (by decide) Fr.rf)⟩
theorem upd_sh {f : Nat → Int32} {k q j : Nat} (hq : q ≤ k) : (if q < j ∧ j ≤ k then upd f (k + 1) (f k) (j - 1) else upd f (k + 1) (f k) j) = if q < j ∧ j ≤ k + 1 then f (j - 1) else f j := by
  by_cases c1 : q < j ∧ j ≤ k
  · rw [if_pos c1, if_pos (show q < j ∧ j ≤ k + 1 by omega), upd_ne (by omega)]
  · rw [if_neg c1]
    by_cases c2 : j = k + 1
    · rw [c2, upd_eq, if_pos (show q < k + 1 ∧ k + 1 ≤ k + 1 by omega), show k + 1 - 1 = k by omega]
    · rw [upd_ne c2, if_neg (show ¬ (q < j ∧ j ≤ k + 1) by omega)]
theorem insP_f (p : Int32) : ∀ k X, (insP p k X).1 ≤ k ∧ (∀ j, (insP p k X).2.2.1 14 j = if (insP p k X).1 < j ∧ j ≤ k then X.2.1 14 (j - 1) else X.2.1 14 j) ∧ (∀ j, (insP p k X).2.2.1 15 j = if (insP p k X).1 < j ∧ j ≤ k then X.2.1 15 (j - 1) else X.2.1 15 j) ∧ (∀ j, (insP p k X).1 ≤ j → j < k → p.toInt < (X.2.1 14 j).toInt) ∧ (0 < (insP p k X).1 → (X.2.1 14 ((insP p k X).1 - 1)).toInt ≤ p.toInt) ∧ Fr [] [14, 15] [] [] (insP p k X).2 X
  | 0, X => by
    unfold insP
    exact ⟨Nat.le_refl _, fun j => by rw [if_neg (by omega)], fun j => by rw [if_neg (by omega)], fun j _ z => by omega, fun z => by omega, Fr.rf⟩
  | k + 1, X => by
    unfold insP
    by_cases q : X.2.1 14 k ≤ p
    · rw [if_pos q]
      rw [Int32.le_iff_toInt_le] at q
      exact ⟨Nat.le_refl _, fun j => by rw [if_neg (by omega)], fun j => by rw [if_neg (by omega)], fun j z y => by omega, fun _ => q, Fr.rf⟩
    · rw [if_neg q]
      rw [Int32.le_iff_toInt_le] at q
      obtain ⟨i1, i2, i3, i4, i5, i6⟩ := insP_f p k (shS k X)
      obtain ⟨s1, s2, s3⟩ := shS_f k X
      rw [s1] at i2 i4 i5
      rw [s2] at i3
      generalize insP p k (shS k X) = z at *
      refine ⟨by omega, fun j => (i2 j).trans (upd_sh i1), fun j => (i3 j).trans (upd_sh i1), fun j a b => ?_, fun a => ?_, i6.tr s3⟩
      · by_cases y : j = k
        · rw [y]
          omega
        · have := i4 j a (by omega)
          rw [upd_ne (by omega)] at this
          exact this
      · have := i5 a
        rw [upd_ne (by omega)] at this
        exact this
def cV (x y p : Int32) (t : Int) : Nat := if x = p then (if y.toInt < t then 0 else 1) else 0
theorem cR_cg {P H P' H' : Nat → Int32} {p : Int32} {t : Int} {k k' : Nat} (h1 : P k = P' k') (h2 : H k = H' k') : cR P H p t k = cR P' H' p t k' := by
  show cV (P k) (H k) p t = cV (P' k') (H' k') p t
  rw [h1, h2]
theorem smU_cg {f g : Nat → Nat} : ∀ n, (∀ k, k < n → f k = g k) → smU f n = smU g n
  | 0, _ => rfl
  | n + 1, h => by rw [smU, smU, smU_cg n (fun k hk => h k (by omega)), h n (by omega)]
theorem smU_new {f g : Nat → Nat} {q x n : Nat} (hq : q ≤ n) (h1 : ∀ j, j < q → g j = f j) (h2 : g q = x) (h3 : ∀ j, q < j → j ≤ n → g j = f (j - 1)) : smU g (n + 1) = smU f n + x := by
  have L : ∀ i, i ≤ n → (i ≤ q → smU g i = smU f i) ∧ (q ≤ i → smU g (i + 1) = smU f i + x) := by
    intro i
    induction i with
    | zero =>
      intro _
      refine ⟨fun _ => rfl, fun z => ?_⟩
      have : q = 0 := by omega
      rw [this] at h2
      show 0 + g 0 = 0 + x
      rw [h2]
    | succ i ih =>
      intro hi
      obtain ⟨i1, i2⟩ := ih (by omega)
      have A : i + 1 ≤ q → smU g (i + 1) = smU f (i + 1) := by
        intro z
        rw [smU, smU, i1 (by omega), h1 i (by omega)]
      refine ⟨A, fun z => ?_⟩
      by_cases y : q = i + 1
      · rw [smU, A (by omega), ← y, h2]
      · rw [smU, i2 (by omega), h3 (i + 1) (by omega) hi, smU, show i + 1 - 1 = i by omega]
        omega
  exact (L n (Nat.le_refl _)).2 hq
theorem RVi.keep {S X : St} {nf nv : Nat} (h : RVi S nf nv) (e1 : X.1 12 = S.1 12) (e2 : X.1 37 = S.1 37) (e3 : X.2.1 44 = S.2.1 44) (e4 : X.2.1 45 = S.2.1 45) (e5 : X.2.1 14 = S.2.1 14) (e6 : X.2.1 15 = S.2.1 15) (e7 : X.2.1 25 = S.2.1 25) : RVi X nf nv := by
  unfold RVi
  rw [e1, e2, e3, e4, e5, e6, e7]
  exact h
theorem addV_f {nv : Nat} {p h : Int32} {S : St} : ∃ q, q ≤ nv ∧ (∀ j, (addV nv p h S).2.1 14 j = if j = q then p else if q < j ∧ j ≤ nv then S.2.1 14 (j - 1) else S.2.1 14 j) ∧ (∀ j, (addV nv p h S).2.1 15 j = if j = q then h else if q < j ∧ j ≤ nv then S.2.1 15 (j - 1) else S.2.1 15 j) ∧ (∀ j, q ≤ j → j < nv → p.toInt < (S.2.1 14 j).toInt) ∧ (0 < q → (S.2.1 14 (q - 1)).toInt ≤ p.toInt) ∧ Fr [12] [14, 15] [] [] (addV nv p h S) S ∧ (addV nv p h S).1 12 = nI nv + 1 := by
  obtain ⟨i1, i2, i3, i4, i5, i6⟩ := insP_f p nv S
  unfold addV
  dsimp only
  generalize insP p nv S = z at *
  refine ⟨z.1, i1, fun j => ?_, fun j => ?_, i4, i5, ?_, rfl⟩
  · show upd (z.2.2.1 14) z.1 p j = _
    unfold upd
    by_cases c : j = z.1
    · rw [if_pos c, if_pos c]
    · rw [if_neg c, if_neg c]
      exact i2 j
  · show upd (z.2.2.1 15) z.1 h j = _
    unfold upd
    by_cases c : j = z.1
    · rw [if_pos c, if_pos c]
    · rw [if_neg c, if_neg c]
      exact i3 j
  · exact Fr.I (by decide) (Fr.A (by decide) (Fr.A (by decide) (Fr.wi i6 (by decide) (by decide) (fun n q => q) (fun n q => q))))
theorem s_visit {nf nv : Nat} {f h : Int32} {S : St} (hF : RF S nf) (hv : RVi S nf nv) (hm : RM S) : (visitC nf nv f h S).1 = (visitM nf nv f h (visitC nf nv f h S).2).1 ∧ RM (visitM nf nv f h (visitC nf nv f h S).2).2 ∧ ∃ n, RVi (visitM nf nv f h (visitC nf nv f h S).2).2 nf n := by
  unfold visitC visitM
  by_cases q1 : outB h 0 5000 = true
  · simp only [if_pos q1]
    exact ⟨rfl, hm.refuse, nv, hv⟩
  · simp only [if_neg q1]
    by_cases q2 : outB f 0 (nI nf - 1) = true
    · simp only [if_pos q2]
      exact ⟨rfl, hm.refuse, nv, hv⟩
    · simp only [if_neg q2]
      by_cases q3 : nv < 16
      · simp only [if_pos q3]
        obtain ⟨h1, h2, h3, h4, h5, h6, h7⟩ := id hv
        have h40 := hF.1
        obtain ⟨i, hi, ei⟩ := idx_of hF.1 q2
        have hcl : f.toNatClampNeg = i := by rw [ei]; exact nI_clamp (by omega)
        rw [hcl]
        have hp : rng 0 1000 (S.2.1 1 i) := by
          rw [hF.2.2.2.2.1]
          exact (hF.2.2.2.2.2.2 i hi).2.1
        have hpe : S.2.1 1 i = S.2.1 25 i := by rw [hF.2.2.2.2.1]
        obtain ⟨q, a1, a2, a3, a4, a5, a6, a7⟩ := addV_f (nv := nv) (p := S.2.1 1 i) (h := h) (S := S)
        have b1 : (addV nv (S.2.1 1 i) h S).2.1 44 = S.2.1 44 := a6.2.1 _ (by decide)
        have b2 : (addV nv (S.2.1 1 i) h S).2.1 45 = S.2.1 45 := a6.2.1 _ (by decide)
        have b3 : (addV nv (S.2.1 1 i) h S).2.1 25 = S.2.1 25 := a6.2.1 _ (by decide)
        have b4 : (addV nv (S.2.1 1 i) h S).1 33 = S.1 33 := a6.1 _ (by decide)
        have b5 : (addV nv (S.2.1 1 i) h S).1 0 = S.1 0 := a6.1 _ (by decide)
        generalize addV nv (S.2.1 1 i) h S = Z at *
        generalize S.2.1 1 i = p at *
        refine ⟨trivial, ⟨rfl, ?_⟩, nv + 1, ⟨by omega, ?_, nI_1 nv, ?_, ?_, ?_, ?_⟩⟩
        · show Z.1 0 = Z.1 33
          rw [b4, b5]
          exact hm.2
        · show Z.1 12 = nI (nv + 1)
          rw [a7]
          exact nI_1 nv
        · intro k hk
          show ∃ i, i < nf ∧ upd (Z.2.1 44) nv f k = nI i
          rw [b1]
          rcases lt_split hk with hk | hk
          · rw [upd_ne (by omega)]
            exact h4 k hk
          · rw [hk, upd_eq]
            exact ⟨i, hi, ei⟩
        · intro k hk
          show rng 0 1000 (Z.2.1 14 k)
          rw [a2]
          by_cases c1 : k = q
          · rw [if_pos c1]
            exact hp
          · rw [if_neg c1]
            by_cases c2 : q < k ∧ k ≤ nv
            · rw [if_pos c2]
              exact h5 _ (by omega)
            · rw [if_neg c2]
              exact h5 _ (by omega)
        · intro k hk
          show (Z.2.1 14 k).toInt ≤ (Z.2.1 14 (k + 1)).toInt
          rw [a2, a2]
          by_cases c1 : k + 1 < q
          · rw [if_neg (show ¬ k = q by omega), if_neg (show ¬ (q < k ∧ k ≤ nv) by omega), if_neg (show ¬ k + 1 = q by omega), if_neg (show ¬ (q < k + 1 ∧ k + 1 ≤ nv) by omega)]
            exact h6 k (by omega)
          · by_cases c2 : k + 1 = q
            · rw [if_neg (show ¬ k = q by omega), if_neg (show ¬ (q < k ∧ k ≤ nv) by omega), if_pos c2]
              have := a5 (by omega)
              rw [show q - 1 = k by omega] at this
              exact this
            · by_cases c3 : k = q
              · rw [if_pos c3, if_neg c2, if_pos (show q < k + 1 ∧ k + 1 ≤ nv by omega), show k + 1 - 1 = q by omega]
                have := a4 q (Nat.le_refl _) (by omega)
                omega
              · rw [if_neg c3, if_pos (show q < k ∧ k ≤ nv by omega), if_neg c2, if_pos (show q < k + 1 ∧ k + 1 ≤ nv by omega)]
                have := h6 (k - 1) (by omega)
                rw [show k - 1 + 1 = k by omega] at this
                rw [show k + 1 - 1 = k by omega]
                exact this
        · intro pp t
          show mtI (Z.2.1 25) (upd (Z.2.1 44) nv f) (upd (Z.2.1 45) nv h) pp t (nv + 1) = smU (cR (Z.2.1 14) (Z.2.1 15) pp t) (nv + 1)
          rw [b1, b2, b3]
          have k7 := h7 pp t
          rw [mtI_sm] at k7
          have r := smU_new (f := cR (S.2.1 14) (S.2.1 15) pp t) (g := cR (Z.2.1 14) (Z.2.1 15) pp t) (q := q) (x := if p = pp then (if h.toInt < t then 0 else 1) else 0) (n := nv) a1 (fun j hj => by
            unfold cR
            rw [a2, a3, if_neg (show ¬ j = q by omega), if_neg (show ¬ (q < j ∧ j ≤ nv) by omega), if_neg (show ¬ j = q by omega), if_neg (show ¬ (q < j ∧ j ≤ nv) by omega)]) (by
            unfold cR
            rw [a2, a3, if_pos rfl, if_pos rfl]) (fun j j1 j2 => by
            unfold cR
            rw [a2, a3, if_neg (show ¬ j = q by omega), if_pos (show q < j ∧ j ≤ nv from ⟨j1, j2⟩), if_neg (show ¬ j = q by omega), if_pos (show q < j ∧ j ≤ nv from ⟨j1, j2⟩)])
          rw [r, ← k7, mtI_sm, smU]
          have c1 : smU (cR (fun k => S.2.1 25 (upd (S.2.1 44) nv f k).toNatClampNeg) (upd (S.2.1 45) nv h) pp t) nv = smU (cR (fun k => S.2.1 25 (S.2.1 44 k).toNatClampNeg) (S.2.1 45) pp t) nv := by
            refine smU_cg nv (fun k hk => ?_)
            exact cR_cg (by show S.2.1 25 (upd (S.2.1 44) nv f k).toNatClampNeg = S.2.1 25 (S.2.1 44 k).toNatClampNeg; rw [upd_ne (by omega)]) (upd_ne (by omega))
          rw [c1]
          congr 1
          show cV (S.2.1 25 (upd (S.2.1 44) nv f nv).toNatClampNeg) (upd (S.2.1 45) nv h nv) pp t = cV p h pp t
          rw [upd_eq, upd_eq, hcl, ← hpe]
      · simp only [if_neg q3]
        exact ⟨rfl, hm.refuse, nv, hv⟩
theorem s_clear {nf nv : Nat} {S : St} (hv : RVi S nf nv) : S.1 12 = (setI S 12 0).1 37 ∧ RVi (setI (th (setI S 12 0)) 37 0) nf 0 := by
  obtain ⟨h1, h2, h3, h4, h5, h6, h7⟩ := hv
  refine ⟨?_, by omega, ?_, ?_, fun k hk => by omega, fun k hk => by omega, fun k hk => by omega, fun p t => rfl⟩
  · show S.1 12 = S.1 37
    rw [h2, h3]
  · rw [nI_0]
    rfl
  · rw [nI_0]
    rfl
/-- a new farmer leaves the visits alike -/
theorem RVi.more {nf n nv : Nat} {S X : St} (h : RVi S nf nv) (hn : nf ≤ n) (h40 : nf ≤ 40) (e1 : X.1 12 = S.1 12) (e2 : X.1 37 = S.1 37) (e3 : X.2.1 44 = S.2.1 44) (e4 : X.2.1 45 = S.2.1 45) (e5 : X.2.1 14 = S.2.1 14) (e6 : X.2.1 15 = S.2.1 15) (e7 : ∀ k, k < nf → X.2.1 25 k = S.2.1 25 k) : RVi X n nv := by
  obtain ⟨h1, h2, h3, h4, h5, h6, h7⟩ := h
  refine ⟨h1, e1.trans h2, e2.trans h3, ?_, ?_, ?_, ?_⟩
  · intro k hk
    rw [e3]
    obtain ⟨i, hi, ei⟩ := h4 k hk
    exact ⟨i, by omega, ei⟩
  · rw [e5]
    exact h5
  · rw [e5]
    exact h6
  · intro p t
    rw [e3, e4, e5, e6, ← h7 p t, mtI_sm, mtI_sm]
    refine smU_cg nv (fun k hk => ?_)
    obtain ⟨i, hi, ei⟩ := h4 k hk
    exact cR_cg (by show X.2.1 25 (S.2.1 44 k).toNatClampNeg = S.2.1 25 (S.2.1 44 k).toNatClampNeg; rw [ei, nI_clamp (by omega), e7 i hi]) rfl
end RDB
