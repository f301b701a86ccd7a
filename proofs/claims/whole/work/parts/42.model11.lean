section MO11
variable {g : GG} {S : St}
theorem setA_set (S : St) (n : Nat) (x y : Nat → Int32) : setA (setA S n x) n y = setA S n y := by
  unfold setA
  refine congrArg (fun z => (S.1, z, S.2.2)) ?_
  funext j
  simp only [va_up]
  split <;> rfl
theorem setA_get (X : St) (n : Nat) (f : Nat → Int32) : (setA X n f).2.1 n = f := by
  show va_up X.2.1 n f n = f
  simp [va_up]
theorem setA_ne (X : St) {n m : Nat} (h : m ≠ n) (f : Nat → Int32) : (setA X n f).2.1 m = X.2.1 m := by
  show va_up X.2.1 n f m = _
  simp [va_up, h]
theorem shM_get (k : Nat) : ∀ (r : Nat) (X : St) (j : Nat), (shM k r X).2.1 46 j = if k < j ∧ j ≤ k + r then X.2.1 46 (j - 1) else X.2.1 46 j
  | 0, X, j => by
    rw [shM, if_neg (by omega)]
  | r + 1, X, j => by
    rw [shM, shM_get k r _ j, setA_get]
    unfold upd
    by_cases h1 : k < j ∧ j ≤ k + r
    · rw [if_pos h1, if_neg (show ¬ j - 1 = k + r + 1 by omega), if_pos (show k < j ∧ j ≤ k + (r + 1) by omega)]
    · rw [if_neg h1]
      by_cases h2 : j = k + r + 1
      · rw [if_pos h2, if_pos (show k < j ∧ j ≤ k + (r + 1) by omega), show j - 1 = k + r by omega]
      · rw [if_neg h2, if_neg (show ¬ (k < j ∧ j ≤ k + (r + 1)) by omega)]
theorem shM_ne (k : Nat) {m : Nat} (h : m ≠ 46) : ∀ (r : Nat) (X : St), (shM k r X).2.1 m = X.2.1 m
  | 0, _ => rfl
  | r + 1, X => by rw [shM, shM_ne k h r, setA_ne _ h]
theorem shM_2 (k : Nat) : ∀ (r : Nat) (X : St), (shM k r X).2.2 = X.2.2
  | 0, _ => rfl
  | r + 1, X => by rw [shM, shM_2 k r]; rfl
def addPc (n : Nat) (p : Int32) (X : St) : Nat :=
  let k := apF (X.2.1 46) p n 0
  if n ≤ k then n + 1 else if X.2.1 46 k = p then n else n + 1
theorem insM_get {n k : Nat} (h : k ≤ n) (p : Int32) (X : St) (j : Nat) : (insM n k p X).2.1 46 j = if j = k then p else if k < j ∧ j ≤ n then X.2.1 46 (j - 1) else X.2.1 46 j := by
  show (setA (shM k (n - k) X) 46 _).2.1 46 j = _
  rw [setA_get]
  unfold upd
  by_cases h1 : j = k
  · rw [if_pos h1, if_pos h1]
  · rw [if_neg h1, if_neg h1, shM_get, show k + (n - k) = n by omega]
theorem insM_mem {n k : Nat} (h : k ≤ n) (p : Int32) (X : St) {q : Int32} (hq : q = p ∨ ∃ b, b < n ∧ X.2.1 46 b = q) : ∃ b, b < n + 1 ∧ (insM n k p X).2.1 46 b = q := by
  rcases hq with rfl | ⟨b, hb, hbq⟩
  · exact ⟨k, by omega, by rw [insM_get h, if_pos rfl]⟩
  · by_cases h1 : b < k
    · exact ⟨b, by omega, by rw [insM_get h, if_neg (by omega), if_neg (by omega)]; exact hbq⟩
    · exact ⟨b + 1, by omega, by rw [insM_get h, if_neg (by omega), if_pos (by omega)]; exact hbq⟩
theorem addP_mem {n : Nat} (p : Int32) (X : St) {q : Int32} (hq : q = p ∨ ∃ b, b < n ∧ X.2.1 46 b = q) : ∃ b, b < addPc n p X ∧ (addP n p X).2.1 46 b = q := by
  have hk := apF_le (X.2.1 46) p n 0
  unfold addP addPc
  dsimp only
  by_cases h1 : n ≤ apF (X.2.1 46) p n 0
  · rw [if_pos h1, if_pos h1]
    exact insM_mem (by omega) p X hq
  · rw [if_neg h1, if_neg h1]
    by_cases h2 : X.2.1 46 (apF (X.2.1 46) p n 0) = p
    · rw [if_pos h2, if_pos h2]
      rcases hq with rfl | hq
      · exact ⟨_, by omega, h2⟩
      · exact hq
    · rw [if_neg h2, if_neg h2]
      exact insM_mem (by omega) p X hq
theorem addP_cnt {n : Nat} (p : Int32) (X : St) (h : X.1 38 = nI n) : (addP n p X).1 38 = nI (addPc n p X) ∧ n ≤ addPc n p X ∧ addPc n p X ≤ n + 1 := by
  unfold addP addPc
  dsimp only
  by_cases h1 : n ≤ apF (X.2.1 46) p n 0
  · rw [if_pos h1, if_pos h1]
    exact ⟨nI_1 n, by omega, by omega⟩
  · rw [if_neg h1, if_neg h1]
    by_cases h2 : X.2.1 46 (apF (X.2.1 46) p n 0) = p
    · rw [if_pos h2, if_pos h2]
      exact ⟨h, by omega, by omega⟩
    · rw [if_neg h2, if_neg h2]
      exact ⟨nI_1 n, by omega, by omega⟩
/-- the same but for the places -/
def eqPl (X S : St) : Prop := (∀ n, n ≠ 38 → X.1 n = S.1 n) ∧ (∀ n, n ≠ 46 → X.2.1 n = S.2.1 n) ∧ X.2.2 = S.2.2
theorem eqPl.rf : eqPl S S := ⟨fun _ _ => rfl, fun _ _ => rfl, rfl⟩
theorem eqPl.tr {X Y : St} (h : eqPl Y X) (h2 : eqPl X S) : eqPl Y S := ⟨fun n a => (h.1 n a).trans (h2.1 n a), fun n a => (h.2.1 n a).trans (h2.2.1 n a), h.2.2.trans h2.2.2⟩
theorem insM_eq (n k : Nat) (p : Int32) (X : St) : eqPl (insM n k p X) X := by
  refine ⟨fun m hm => ?_, fun m hm => ?_, ?_⟩
  · show va_up (shM k (n - k) X).1 _ _ m = _
    simp only [va_up, if_neg hm]
    rw [shM_I]
  · show (setA (shM k (n - k) X) 46 _).2.1 m = _
    rw [setA_ne _ hm, shM_ne k hm]
  · show (shM k (n - k) X).2.2 = _
    exact shM_2 k (n - k) X
theorem addP_eq (n : Nat) (p : Int32) (X : St) : eqPl (addP n p X) X := by
  unfold addP
  dsimp only
  split
  · exact insM_eq _ _ _ _
  · split
    · exact eqPl.rf
    · exact insM_eq _ _ _ _
def apB (v : Nat) (q : St × Nat) : St × Nat := (addP q.2 (q.1.2.1 25 (q.1.2.1 44 v).toNatClampNeg) q.1, addPc q.2 (q.1.2.1 25 (q.1.2.1 44 v).toNatClampNeg) q.1)
theorem apB_eqs : ∀ (k : Nat) (q : St × Nat), eqPl (it apB k q).1 q.1
  | 0, _ => eqPl.rf
  | k + 1, q => (addP_eq _ _ _).tr (apB_eqs k q)
theorem apB_cnt {bg : Int32} : ∀ (k : Nat) (q : St × Nat), q.1.1 38 = nI q.2 → (∃ b, b < q.2 ∧ q.1.2.1 46 b = bg) → (it apB k q).1.1 38 = nI (it apB k q).2 ∧ q.2 ≤ (it apB k q).2 ∧ (it apB k q).2 ≤ q.2 + k ∧ ∃ b, b < (it apB k q).2 ∧ (it apB k q).1.2.1 46 b = bg
  | 0, q, h, hb => ⟨h, Nat.le_refl _, Nat.le_refl _, hb⟩
  | k + 1, q, h, hb => by
    obtain ⟨h1, h2, h3, h4⟩ := apB_cnt k q h hb
    rw [it_s]
    generalize it apB k q = z at *
    have h5 := addP_cnt (z.1.2.1 25 (z.1.2.1 44 k).toNatClampNeg) z.1 h1
    exact ⟨h5.1, by have := h5.2.1; show q.2 ≤ addPc _ _ _; omega, by have := h5.2.2; show addPc _ _ _ ≤ _; omega, addP_mem _ _ (Or.inr h4)⟩
theorem Vm.pl {X : St} {nv : Nat} (h : Vm S nv) (e : eqPl X S) : Vm X nv := by
  obtain ⟨h1, h2, h3⟩ := h
  refine ⟨by rw [e.1 _ (by decide)]; exact h1, h2, fun k hk => ?_⟩
  rw [e.2.1 _ (by decide)]
  exact h3 k hk
def fbF (pl : Nat → Int32) (bg : Int32) : Nat → Nat → Nat
  | 0, k => k
  | r + 1, k => if pl k = bg then k else fbF pl bg r (k + 1)
def pl0 (bg : Int32) (S : St) : St × Nat := (addP 0 bg (setI S 38 0), 1)
def wk3 (bg : Int32) (nv m b : Nat) (X : St) : St :=
  let Y := setA X 47 (fillF 9826 1000000000 (X.2.1 47))
  setA Y 47 (upd (Y.2.1 47) (atN b b 0 (mtF (Y.2.1 25) (Y.2.1 44) (Y.2.1 45) bg 0 nv)) 0)
def walkM (bg : Int32) (nv : Nat) (S : St) : St :=
  let q := it apB nv (pl0 bg S)
  it (wkW q.2 nv) (q.2 - 1) (wk3 bg nv q.2 (fbF (q.1.2.1 46) bg q.2 0) q.1)
theorem wm_fill {bg : Int32} (Post : Option Value → List va_E → Prop) (hx : Ev g mX10_walk 65 [(0, .ref 43), (1, .int bg)] [] (hC (setA S 47 (fillF 9826 1000000000 (S.2.1 47)))) Post) : Ev g mX10_walk 41 [(0, .ref 43), (1, .int bg)] [] (hC S) Post := by
  have L : ∀ k, k ≤ 9826 → Ev g mX10_walk 43 [(0, .ref 43), (1, .int bg), (2, .int (nI k))] [] (hC (setA S 47 (fillF k 1000000000 (S.2.1 47)))) Post := by
    refine loop_up 9826 ?_ ?_
    · skip
      refine ev_iload_n (pc := 43) dX10_walk_43 rfl ?_
      refine ev_sipush (pc := 44) (v := nI 9826) dX10_walk_44 (by decide) ?_
      refine ev_icmp_geN (pc := 47) (tgt := 65) (by omega) (by omega) dX10_walk_47 (by decide) (fun cq47 => ?_) (fun cq47 => absurd (Nat.le_refl 9826) cq47)
      exact ev_keep [0, 1] hx
    · intro k hk ih
      refine ev_iload_n (pc := 43) dX10_walk_43 rfl ?_
      refine ev_sipush (pc := 44) (v := nI 9826) dX10_walk_44 (by decide) ?_
      refine ev_icmp_geN (pc := 47) (tgt := 65) (by omega) (by omega) dX10_walk_47 (by decide) (fun cq47 => absurd cq47 (by omega)) (fun cq47 => ?_)
      refine ev_aload_n (pc := 50) dX10_walk_50 rfl ?_
      refine get_MO_early (pc := 51) dX10_walk_51 Fl_X10_114 ?_
      refine ev_iload_n (pc := 54) dX10_walk_54 rfl ?_
      refine ev_ldcw (pc := 55) dX10_walk_55 Cn_X10_278 ?_
      refine asN_MO_early (pc := 58) dX10_walk_58 (by omega) ?_
      rw [setA_get, setA_set, fillF_s]
      refine ev_iincN (pc := 59) (lv' := [(0, .ref 43), (1, .int _), (2, .int _)]) dX10_walk_59 rfl (Nat.le_of_ble_eq_true rfl) rfl ?_
      refine ev_goto (pc := 62) (tgt := 43) dX10_walk_62 (by decide) ?_
      exact ih
  have L0 := L 0 (Nat.zero_le _)
  rw [fillF_0] at L0
  have e : setA S 47 (S.2.1 47) = S := by
    unfold setA
    refine congrArg (fun z => (S.1, z, S.2.2)) ?_
    funext j
    simp only [va_up]
    split
    · rename_i h; rw [h]
    · rfl
  rw [e] at L0
  refine ev_iconst (pc := 41) (v := nI 0) dX10_walk_41 (by decide) ?_
  refine ev_istore_n (pc := 42) (lv' := [(0, .ref 43), (1, .int _), (2, .int _)]) dX10_walk_42 (Nat.le_of_ble_eq_true rfl) rfl ?_
  exact L0
theorem wm_find {bg : Int32} {m : Nat} (hm : m ≤ 17) (Post : Option Value → List va_E → Prop) : ∀ (r k : Nat), k + r = m → (∃ b, k ≤ b ∧ b < m ∧ S.2.1 46 b = bg) → Ev g mX10_walk 83 [(0, .ref 43), (1, .int bg), (2, .int (nI (fbF (S.2.1 46) bg r k)))] [] (hC S) Post → Ev g mX10_walk 67 [(0, .ref 43), (1, .int bg), (2, .int (nI k))] [] (hC S) Post := by
  intro r
  induction r with
  | zero =>
    intro k hk hb h
    obtain ⟨b, hb1, hb2, -⟩ := hb
    omega
  | succ r ih =>
    intro k hk hb h
    rw [fbF] at h
    refine ev_aload_n (pc := 67) dX10_walk_67 rfl ?_
    refine get_MO_place (pc := 68) dX10_walk_68 Fl_X10_111 ?_
    refine ev_iload_n (pc := 71) dX10_walk_71 rfl ?_
    refine ldN_MO_place (pc := 72) dX10_walk_72 (by omega) rfl ?_
    refine ev_iload_n (pc := 73) dX10_walk_73 rfl ?_
    refine ev_icmp_eq (pc := 74) (tgt := 83) dX10_walk_74 (by decide) (fun cq74 => ?_) (fun cq74 => ?_)
    · rw [if_pos cq74] at h
      exact h
    · rw [if_neg cq74] at h
      refine ev_iincN (pc := 77) (lv' := [(0, .ref 43), (1, .int _), (2, .int _)]) dX10_walk_77 rfl (Nat.le_of_ble_eq_true rfl) rfl ?_
      refine ev_goto (pc := 80) (tgt := 67) dX10_walk_80 (by decide) ?_
      exact ih _ (by omega) (by obtain ⟨b, hb1, hb2, hb3⟩ := hb; refine ⟨b, ?_, hb2, hb3⟩; rcases Nat.lt_or_eq_of_le hb1 with z | z; exact z; exact absurd (by rw [z]; exact hb3) cq74) h
theorem fbF_lt {pl : Nat → Int32} {bg : Int32} : ∀ (r k : Nat), (∃ b, k ≤ b ∧ b < k + r ∧ pl b = bg) → fbF pl bg r k < k + r ∧ pl (fbF pl bg r k) = bg
  | 0, k, h => by obtain ⟨b, h1, h2, -⟩ := h; omega
  | r + 1, k, h => by
    rw [fbF]
    by_cases hk : pl k = bg
    · rw [if_pos hk]; exact ⟨by omega, hk⟩
    · rw [if_neg hk]
      have := fbF_lt r (k + 1) (by
        obtain ⟨b, h1, h2, h3⟩ := h
        refine ⟨b, ?_, by omega, h3⟩
        rcases Nat.lt_or_eq_of_le h1 with z | z
        · exact z
        · exact absurd (by rw [z]; exact h3) hk)
      exact ⟨by omega, this.2⟩
theorem c_X10_walk {bg : Int32} {nv : Nat} (hV : Vm S nv) : Ct g mX10_walk [.ref 43, .int bg] (hC S) (RV (walkM bg nv S)) := by
  have hV0 : Vm (setI S 38 0) nv := hV
  have e0 : eqPl (pl0 bg S).1 (setI S 38 0) := addP_eq 0 bg (setI S 38 0)
  have h0 := addP_cnt (n := 0) bg (setI S 38 0) (by rw [nI_0]; rfl)
  have hc0 : addPc 0 bg (setI S 38 0) = 1 := by
    unfold addPc
    dsimp only
    rw [if_pos (Nat.zero_le _)]
  rw [hc0] at h0
  have hmem0 : ∃ b, b < (pl0 bg S).2 ∧ (pl0 bg S).1.2.1 46 b = bg := by
    have := addP_mem (n := 0) bg (setI S 38 0) (q := bg) (Or.inl rfl)
    rw [hc0] at this
    exact this
  have hcn := fun k => apB_cnt (bg := bg) k (pl0 bg S) h0.1 hmem0
  have hVk : ∀ k, Vm (it apB k (pl0 bg S)).1 nv := fun k => hV0.pl ((apB_eqs k _).tr e0)
  have hnv := hV.2.1
  have L : ∀ (Post : Option Value → List va_E → Prop), Ev g mX10_walk 41 [(0, .ref 43), (1, .int bg)] [] (hC (it apB nv (pl0 bg S)).1) Post → ∀ k, k ≤ nv → Ev g mX10_walk 12 [(0, .ref 43), (1, .int bg), (2, .int (nI k))] [] (hC (it apB k (pl0 bg S)).1) Post := by
    intro Post hx
    refine loop_up nv ?_ ?_
    · obtain ⟨hv, -, -⟩ := hVk nv
      refine ev_iload_n (pc := 12) dX10_walk_12 rfl ?_
      refine ev_aload_n (pc := 13) dX10_walk_13 rfl ?_
      refine get_MO_visits (pc := 14) dX10_walk_14 Fl_X10_268 hv ?_
      refine ev_icmp_geN (pc := 17) (tgt := 41) (by omega) (by omega) dX10_walk_17 (by decide) (fun cq17 => ?_) (fun cq17 => absurd (Nat.le_refl nv) cq17)
      exact ev_keep [0, 1] hx
    · intro k hk ih
      obtain ⟨hv, -, hf⟩ := hVk k
      obtain ⟨c1, c2, c3, -⟩ := hcn k
      have hp1 : (pl0 bg S).2 = 1 := rfl
      refine ev_iload_n (pc := 12) dX10_walk_12 rfl ?_
      refine ev_aload_n (pc := 13) dX10_walk_13 rfl ?_
      refine get_MO_visits (pc := 14) dX10_walk_14 Fl_X10_268 hv ?_
      refine ev_icmp_geN (pc := 17) (tgt := 41) (by omega) (by omega) dX10_walk_17 (by decide) (fun cq17 => absurd cq17 (by omega)) (fun cq17 => ?_)
      refine ev_aload_n (pc := 20) dX10_walk_20 rfl ?_
      refine ev_aload_n (pc := 21) dX10_walk_21 rfl ?_
      refine get_MO_fPlace (pc := 22) dX10_walk_22 Fl_X10_13 ?_
      refine ev_aload_n (pc := 25) dX10_walk_25 rfl ?_
      refine get_MO_vFarmer (pc := 26) dX10_walk_26 Fl_X10_105 ?_
      refine ev_iload_n (pc := 29) dX10_walk_29 rfl ?_
      refine ldN_MO_vFarmer (pc := 30) dX10_walk_30 (by omega) rfl ?_
      refine ld_MO_fPlace (pc := 31) dX10_walk_31 (hf k hk) rfl ?_
      refine callV1V (pc := 32) dX10_walk_32 Ml_X10_283 M_X10_addPlace rfl rfl rfl rfl (c_X10_addPlace c1 (by omega)) ?_
      refine ev_iincN (pc := 35) (lv' := [(0, .ref 43), (1, .int _), (2, .int _)]) dX10_walk_35 rfl (Nat.le_of_ble_eq_true rfl) rfl ?_
      refine ev_goto (pc := 38) (tgt := 12) dX10_walk_38 (by decide) ?_
      exact ih
  obtain ⟨c1, c2, c3, c4⟩ := hcn nv
  have hp1 : (pl0 bg S).2 = 1 := rfl
  have hVn := hVk nv
  unfold walkM
  dsimp only
  have hL := fun Post hx => L Post hx 0 (Nat.zero_le _)
  simp only [it_0] at hL
  generalize it apB nv (pl0 bg S) = q at *
  obtain ⟨X, m⟩ := q
  dsimp only at *
  have hb : ∃ b, 0 ≤ b ∧ b < 0 + m ∧ X.2.1 46 b = bg := by
    obtain ⟨b, hb1, hb2⟩ := c4
    exact ⟨b, Nat.zero_le _, by omega, hb2⟩
  have hfb := fbF_lt m 0 hb
  have hb' : ∃ b, 0 ≤ b ∧ b < m ∧ X.2.1 46 b = bg := by
    obtain ⟨b, hb1, hb2⟩ := c4
    exact ⟨b, Nat.zero_le _, hb1, hb2⟩
  have hmt := mtF_le (X.2.1 25) (X.2.1 44) (X.2.1 45) bg 0 nv
  have hWm : Wm (wk3 bg nv m (fbF (X.2.1 46) bg m 0) X) m nv := Wm.eq (S := X) ⟨c1, by omega, hVn⟩ ((eqE.e _).tr (eqE.e _))
  have hw := mk_w (g := g) (bg := bg) (b := fbF (X.2.1 46) bg m 0) hWm (by omega)
  refine ct_of rfl rfl ?_
  refine ev_aload_n (pc := 0) dX10_walk_0 rfl ?_
  refine ev_iconst (pc := 1) (v := 0) dX10_walk_1 (by decide) ?_
  refine put_MO_places (pc := 2) dX10_walk_2 Fp_X10_271 ?_
  refine ev_aload_n (pc := 5) dX10_walk_5 rfl ?_
  refine ev_iload_n (pc := 6) dX10_walk_6 rfl ?_
  refine callV1V (pc := 7) dX10_walk_7 Ml_X10_283 M_X10_addPlace rfl rfl rfl rfl (c_X10_addPlace (n := 0) (by rw [nI_0]; rfl) (by omega)) ?_
  refine ev_iconst (pc := 10) (v := nI 0) dX10_walk_10 (by decide) ?_
  refine ev_istore_n (pc := 11) (lv' := [(0, .ref 43), (1, .int _), (2, .int _)]) dX10_walk_11 (Nat.le_of_ble_eq_true rfl) rfl ?_
  refine hL _ ?_
  refine wm_fill _ ?_
  have hlt := at_lt (lo := fbF (X.2.1 46) bg m 0) (hi := fbF (X.2.1 46) bg m 0) (s := 0) (n := mtF (X.2.1 25) (X.2.1 44) (X.2.1 45) bg 0 nv) (by omega) (by omega) (by omega) (by omega)
  refine ev_iconst (pc := 65) (v := nI 0) dX10_walk_65 (by decide) ?_
  refine ev_istore_n (pc := 66) (lv' := [(0, .ref 43), (1, .int _), (2, .int _)]) dX10_walk_66 (Nat.le_of_ble_eq_true rfl) rfl ?_
  refine wm_find (m := m) (by omega) _ m 0 (by omega) hb' ?_
  refine ev_aload_n (pc := 83) dX10_walk_83 rfl ?_
  refine get_MO_early (pc := 84) dX10_walk_84 Fl_X10_114 ?_
  refine ev_iload_n (pc := 87) dX10_walk_87 rfl ?_
  refine ev_iload_n (pc := 88) dX10_walk_88 rfl ?_
  refine ev_iconst (pc := 89) (v := nI 0) dX10_walk_89 (by decide) ?_
  refine ev_aload_n (pc := 90) dX10_walk_90 rfl ?_
  refine ev_iload_n (pc := 91) dX10_walk_91 rfl ?_
  refine ev_iconst (pc := 92) (v := 0) dX10_walk_92 (by decide) ?_
  refine callV2I (pc := 93) dX10_walk_93 Ml_X10_279 M_X10_metAt rfl rfl rfl rfl (c_X10_metAt (S := setA X 47 _) hVn) ?_
  refine callS4I (pc := 96) dX10_walk_96 Ml_X10_274 M_X10_at rfl rfl c_X10_at ?_
  refine ev_iconst (pc := 99) (v := 0) dX10_walk_99 (by decide) ?_
  refine asN_MO_early (pc := 100) dX10_walk_100 hlt ?_
  refine ev_iconst (pc := 101) (v := nI 1) dX10_walk_101 (by decide) ?_
  refine ev_istore_n (pc := 102) (lv' := [(0, .ref 43), (1, .int _), (2, .int _), (3, .int _)]) dX10_walk_102 (Nat.le_of_ble_eq_true rfl) rfl ?_
  exact hw
end MO11
