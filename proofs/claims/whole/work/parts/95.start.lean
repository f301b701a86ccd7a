theorem Ls_C : Cond.laysStatic "java/lang/String" "COMPACT_STRINGS" "Z" ∈ lw_tbl := (List.mem_of_getElem? (i := 480) (by decide +kernel))
theorem Ls_P : Cond.laysStatic "jdk/internal/util/Preconditions" "SIOOBE_FORMATTER" "Ljava/util/function/BiFunction;" ∈ lw_tbl := (List.mem_of_getElem? (i := 496) (by decide +kernel))
theorem Li_C : Cond.initialized "java/lang/String" ∈ lw_tbl := (List.mem_of_getElem? (i := 77) (by decide +kernel))
theorem Li_P : Cond.initialized "jdk/internal/util/Preconditions" ∈ lw_tbl := (List.mem_of_getElem? (i := 79) (by decide +kernel))
theorem Lr_0 : Cond.stringRef RX2 47 "price" ∈ lw_tbl := (List.mem_of_getElem? (i := 466) (by decide +kernel))
theorem Lr_1 : Cond.stringRef RX2 56 "quota" ∈ lw_tbl := (List.mem_of_getElem? (i := 531) (by decide +kernel))
theorem Lr_2 : Cond.stringRef RX2 61 "over" ∈ lw_tbl := (List.mem_of_getElem? (i := 536) (by decide +kernel))
theorem Lr_3 : Cond.stringRef RX2 67 "debt" ∈ lw_tbl := (List.mem_of_getElem? (i := 546) (by decide +kernel))
theorem Lr_4 : Cond.stringRef RX2 69 "stand" ∈ lw_tbl := (List.mem_of_getElem? (i := 547) (by decide +kernel))
theorem Lr_5 : Cond.stringRef RX2 71 "due" ∈ lw_tbl := (List.mem_of_getElem? (i := 548) (by decide +kernel))
theorem Lr_6 : Cond.stringRef RX2 86 "of" ∈ lw_tbl := (List.mem_of_getElem? (i := 541) (by decide +kernel))
section STT
variable {args : Array Value} {s : State}
abbrev tmJ (i : Nat) : Term := .string RX2 (ixJS i)
theorem sj_ex (h : ∀ c ∈ flatC (Jvm.Cond.and given_1 narrow_1), c.before args s = true) : ∀ i : Nat, i < 7 → (Cond.exactly (tmJ i) "java/lang/String").before args s = true := by
  intro i hi
  match i, hi with
  | 0, _ => exact h _ (by decide +kernel)
  | 1, _ => exact h _ (by decide +kernel)
  | 2, _ => exact h _ (by decide +kernel)
  | 3, _ => exact h _ (by decide +kernel)
  | 4, _ => exact h _ (by decide +kernel)
  | 5, _ => exact h _ (by decide +kernel)
  | 6, _ => exact h _ (by decide +kernel)
theorem sj_co (h : ∀ c ∈ flatC (Jvm.Cond.and given_1 narrow_1), c.before args s = true) : ∀ i : Nat, i < 7 → (Cond.eq (.field (tmJ i) "java/lang/String" "coder" "B") (.int 0)).before args s = true := by
  intro i hi
  match i, hi with
  | 0, _ => exact h _ (by decide +kernel)
  | 1, _ => exact h _ (by decide +kernel)
  | 2, _ => exact h _ (by decide +kernel)
  | 3, _ => exact h _ (by decide +kernel)
  | 4, _ => exact h _ (by decide +kernel)
  | 5, _ => exact h _ (by decide +kernel)
  | 6, _ => exact h _ (by decide +kernel)
theorem sj_ar (h : ∀ c ∈ flatC (Jvm.Cond.and given_1 narrow_1), c.before args s = true) : ∀ i : Nat, i < 7 → (Cond.arrayOf (.field (tmJ i) "java/lang/String" "value" "[B") .byte).before args s = true := by
  intro i hi
  match i, hi with
  | 0, _ => exact h _ (by decide +kernel)
  | 1, _ => exact h _ (by decide +kernel)
  | 2, _ => exact h _ (by decide +kernel)
  | 3, _ => exact h _ (by decide +kernel)
  | 4, _ => exact h _ (by decide +kernel)
  | 5, _ => exact h _ (by decide +kernel)
  | 6, _ => exact h _ (by decide +kernel)
theorem sj_le (h : ∀ c ∈ flatC (Jvm.Cond.and given_1 narrow_1), c.before args s = true) : ∀ i : Nat, i < 7 → (Cond.eq (.length (.field (tmJ i) "java/lang/String" "value" "[B")) (.int (Int32.ofNat (lenJS.getD i 0)))).before args s = true := by
  intro i hi
  match i, hi with
  | 0, _ => exact h _ (by decide +kernel)
  | 1, _ => exact h _ (by decide +kernel)
  | 2, _ => exact h _ (by decide +kernel)
  | 3, _ => exact h _ (by decide +kernel)
  | 4, _ => exact h _ (by decide +kernel)
  | 5, _ => exact h _ (by decide +kernel)
  | 6, _ => exact h _ (by decide +kernel)
theorem sj_el0 (h : ∀ c ∈ flatC (Jvm.Cond.and given_1 narrow_1), c.before args s = true) : ∀ j : Nat, j < 5 → (Cond.eq (.elem (.field (tmJ 0) "java/lang/String" "value" "[B") (.int (Int32.ofNat j))) (.int ((bytJS.getD 0 []).getD j 0))).before args s = true := by
  intro j hj
  match j, hj with
  | 0, _ => exact h _ (by decide +kernel)
  | 1, _ => exact h _ (by decide +kernel)
  | 2, _ => exact h _ (by decide +kernel)
  | 3, _ => exact h _ (by decide +kernel)
  | 4, _ => exact h _ (by decide +kernel)
theorem sj_el1 (h : ∀ c ∈ flatC (Jvm.Cond.and given_1 narrow_1), c.before args s = true) : ∀ j : Nat, j < 5 → (Cond.eq (.elem (.field (tmJ 1) "java/lang/String" "value" "[B") (.int (Int32.ofNat j))) (.int ((bytJS.getD 1 []).getD j 0))).before args s = true := by
  intro j hj
  match j, hj with
  | 0, _ => exact h _ (by decide +kernel)
  | 1, _ => exact h _ (by decide +kernel)
  | 2, _ => exact h _ (by decide +kernel)
  | 3, _ => exact h _ (by decide +kernel)
  | 4, _ => exact h _ (by decide +kernel)
theorem sj_el2 (h : ∀ c ∈ flatC (Jvm.Cond.and given_1 narrow_1), c.before args s = true) : ∀ j : Nat, j < 4 → (Cond.eq (.elem (.field (tmJ 2) "java/lang/String" "value" "[B") (.int (Int32.ofNat j))) (.int ((bytJS.getD 2 []).getD j 0))).before args s = true := by
  intro j hj
  match j, hj with
  | 0, _ => exact h _ (by decide +kernel)
  | 1, _ => exact h _ (by decide +kernel)
  | 2, _ => exact h _ (by decide +kernel)
  | 3, _ => exact h _ (by decide +kernel)
theorem sj_el3 (h : ∀ c ∈ flatC (Jvm.Cond.and given_1 narrow_1), c.before args s = true) : ∀ j : Nat, j < 4 → (Cond.eq (.elem (.field (tmJ 3) "java/lang/String" "value" "[B") (.int (Int32.ofNat j))) (.int ((bytJS.getD 3 []).getD j 0))).before args s = true := by
  intro j hj
  match j, hj with
  | 0, _ => exact h _ (by decide +kernel)
  | 1, _ => exact h _ (by decide +kernel)
  | 2, _ => exact h _ (by decide +kernel)
  | 3, _ => exact h _ (by decide +kernel)
theorem sj_el4 (h : ∀ c ∈ flatC (Jvm.Cond.and given_1 narrow_1), c.before args s = true) : ∀ j : Nat, j < 5 → (Cond.eq (.elem (.field (tmJ 4) "java/lang/String" "value" "[B") (.int (Int32.ofNat j))) (.int ((bytJS.getD 4 []).getD j 0))).before args s = true := by
  intro j hj
  match j, hj with
  | 0, _ => exact h _ (by decide +kernel)
  | 1, _ => exact h _ (by decide +kernel)
  | 2, _ => exact h _ (by decide +kernel)
  | 3, _ => exact h _ (by decide +kernel)
  | 4, _ => exact h _ (by decide +kernel)
theorem sj_el5 (h : ∀ c ∈ flatC (Jvm.Cond.and given_1 narrow_1), c.before args s = true) : ∀ j : Nat, j < 3 → (Cond.eq (.elem (.field (tmJ 5) "java/lang/String" "value" "[B") (.int (Int32.ofNat j))) (.int ((bytJS.getD 5 []).getD j 0))).before args s = true := by
  intro j hj
  match j, hj with
  | 0, _ => exact h _ (by decide +kernel)
  | 1, _ => exact h _ (by decide +kernel)
  | 2, _ => exact h _ (by decide +kernel)
theorem sj_el6 (h : ∀ c ∈ flatC (Jvm.Cond.and given_1 narrow_1), c.before args s = true) : ∀ j : Nat, j < 2 → (Cond.eq (.elem (.field (tmJ 6) "java/lang/String" "value" "[B") (.int (Int32.ofNat j))) (.int ((bytJS.getD 6 []).getD j 0))).before args s = true := by
  intro j hj
  match j, hj with
  | 0, _ => exact h _ (by decide +kernel)
  | 1, _ => exact h _ (by decide +kernel)
theorem sj_el (h : ∀ c ∈ flatC (Jvm.Cond.and given_1 narrow_1), c.before args s = true) : ∀ i : Nat, i < 7 → ∀ j : Nat, j < lenJS.getD i 0 → (Cond.eq (.elem (.field (tmJ i) "java/lang/String" "value" "[B") (.int (Int32.ofNat j))) (.int ((bytJS.getD i []).getD j 0))).before args s = true := by
  intro i hi
  match i, hi with
  | 0, _ => exact sj_el0 h
  | 1, _ => exact sj_el1 h
  | 2, _ => exact sj_el2 h
  | 3, _ => exact sj_el3 h
  | 4, _ => exact sj_el4 h
  | 5, _ => exact sj_el5 h
  | 6, _ => exact sj_el6 h
theorem sj_ne0 (h : ∀ c ∈ flatC (Jvm.Cond.and given_1 narrow_1), c.before args s = true) : ∀ j : Nat, j < 7 → 0 ≠ j → (Cond.not (Cond.eq (tmJ 0) (tmJ j))).before args s = true ∨ (Cond.not (Cond.eq (tmJ j) (tmJ 0))).before args s = true := by
  intro j hj q
  match j, hj, q with
  | 0, _, q => exact absurd rfl q
  | 1, _, _ => exact Or.inl (h _ (by decide +kernel))
  | 2, _, _ => exact Or.inl (h _ (by decide +kernel))
  | 3, _, _ => exact Or.inl (h _ (by decide +kernel))
  | 4, _, _ => exact Or.inl (h _ (by decide +kernel))
  | 5, _, _ => exact Or.inl (h _ (by decide +kernel))
  | 6, _, _ => exact Or.inl (h _ (by decide +kernel))
theorem sj_ne1 (h : ∀ c ∈ flatC (Jvm.Cond.and given_1 narrow_1), c.before args s = true) : ∀ j : Nat, j < 7 → 1 ≠ j → (Cond.not (Cond.eq (tmJ 1) (tmJ j))).before args s = true ∨ (Cond.not (Cond.eq (tmJ j) (tmJ 1))).before args s = true := by
  intro j hj q
  match j, hj, q with
  | 0, _, _ => exact Or.inr (h _ (by decide +kernel))
  | 1, _, q => exact absurd rfl q
  | 2, _, _ => exact Or.inl (h _ (by decide +kernel))
  | 3, _, _ => exact Or.inl (h _ (by decide +kernel))
  | 4, _, _ => exact Or.inl (h _ (by decide +kernel))
  | 5, _, _ => exact Or.inl (h _ (by decide +kernel))
  | 6, _, _ => exact Or.inl (h _ (by decide +kernel))
theorem sj_ne2 (h : ∀ c ∈ flatC (Jvm.Cond.and given_1 narrow_1), c.before args s = true) : ∀ j : Nat, j < 7 → 2 ≠ j → (Cond.not (Cond.eq (tmJ 2) (tmJ j))).before args s = true ∨ (Cond.not (Cond.eq (tmJ j) (tmJ 2))).before args s = true := by
  intro j hj q
  match j, hj, q with
  | 0, _, _ => exact Or.inr (h _ (by decide +kernel))
  | 1, _, _ => exact Or.inr (h _ (by decide +kernel))
  | 2, _, q => exact absurd rfl q
  | 3, _, _ => exact Or.inl (h _ (by decide +kernel))
  | 4, _, _ => exact Or.inl (h _ (by decide +kernel))
  | 5, _, _ => exact Or.inl (h _ (by decide +kernel))
  | 6, _, _ => exact Or.inl (h _ (by decide +kernel))
theorem sj_ne3 (h : ∀ c ∈ flatC (Jvm.Cond.and given_1 narrow_1), c.before args s = true) : ∀ j : Nat, j < 7 → 3 ≠ j → (Cond.not (Cond.eq (tmJ 3) (tmJ j))).before args s = true ∨ (Cond.not (Cond.eq (tmJ j) (tmJ 3))).before args s = true := by
  intro j hj q
  match j, hj, q with
  | 0, _, _ => exact Or.inr (h _ (by decide +kernel))
  | 1, _, _ => exact Or.inr (h _ (by decide +kernel))
  | 2, _, _ => exact Or.inr (h _ (by decide +kernel))
  | 3, _, q => exact absurd rfl q
  | 4, _, _ => exact Or.inl (h _ (by decide +kernel))
  | 5, _, _ => exact Or.inl (h _ (by decide +kernel))
  | 6, _, _ => exact Or.inr (h _ (by decide +kernel))
theorem sj_ne4 (h : ∀ c ∈ flatC (Jvm.Cond.and given_1 narrow_1), c.before args s = true) : ∀ j : Nat, j < 7 → 4 ≠ j → (Cond.not (Cond.eq (tmJ 4) (tmJ j))).before args s = true ∨ (Cond.not (Cond.eq (tmJ j) (tmJ 4))).before args s = true := by
  intro j hj q
  match j, hj, q with
  | 0, _, _ => exact Or.inr (h _ (by decide +kernel))
  | 1, _, _ => exact Or.inr (h _ (by decide +kernel))
  | 2, _, _ => exact Or.inr (h _ (by decide +kernel))
  | 3, _, _ => exact Or.inr (h _ (by decide +kernel))
  | 4, _, q => exact absurd rfl q
  | 5, _, _ => exact Or.inl (h _ (by decide +kernel))
  | 6, _, _ => exact Or.inr (h _ (by decide +kernel))
theorem sj_ne5 (h : ∀ c ∈ flatC (Jvm.Cond.and given_1 narrow_1), c.before args s = true) : ∀ j : Nat, j < 7 → 5 ≠ j → (Cond.not (Cond.eq (tmJ 5) (tmJ j))).before args s = true ∨ (Cond.not (Cond.eq (tmJ j) (tmJ 5))).before args s = true := by
  intro j hj q
  match j, hj, q with
  | 0, _, _ => exact Or.inr (h _ (by decide +kernel))
  | 1, _, _ => exact Or.inr (h _ (by decide +kernel))
  | 2, _, _ => exact Or.inr (h _ (by decide +kernel))
  | 3, _, _ => exact Or.inr (h _ (by decide +kernel))
  | 4, _, _ => exact Or.inr (h _ (by decide +kernel))
  | 5, _, q => exact absurd rfl q
  | 6, _, _ => exact Or.inr (h _ (by decide +kernel))
theorem sj_ne6 (h : ∀ c ∈ flatC (Jvm.Cond.and given_1 narrow_1), c.before args s = true) : ∀ j : Nat, j < 7 → 6 ≠ j → (Cond.not (Cond.eq (tmJ 6) (tmJ j))).before args s = true ∨ (Cond.not (Cond.eq (tmJ j) (tmJ 6))).before args s = true := by
  intro j hj q
  match j, hj, q with
  | 0, _, _ => exact Or.inr (h _ (by decide +kernel))
  | 1, _, _ => exact Or.inr (h _ (by decide +kernel))
  | 2, _, _ => exact Or.inr (h _ (by decide +kernel))
  | 3, _, _ => exact Or.inl (h _ (by decide +kernel))
  | 4, _, _ => exact Or.inl (h _ (by decide +kernel))
  | 5, _, _ => exact Or.inl (h _ (by decide +kernel))
  | 6, _, q => exact absurd rfl q
theorem sj_ne (h : ∀ c ∈ flatC (Jvm.Cond.and given_1 narrow_1), c.before args s = true) : ∀ i j : Nat, i < 7 → j < 7 → i ≠ j → (Cond.not (Cond.eq (tmJ i) (tmJ j))).before args s = true ∨ (Cond.not (Cond.eq (tmJ j) (tmJ i))).before args s = true := by
  intro i j hi
  match i, hi with
  | 0, _ => exact sj_ne0 h j
  | 1, _ => exact sj_ne1 h j
  | 2, _ => exact sj_ne2 h j
  | 3, _ => exact sj_ne3 h j
  | 4, _ => exact sj_ne4 h j
  | 5, _ => exact sj_ne5 h j
  | 6, _ => exact sj_ne6 h j
theorem sj_ref (h : ∀ w ∈ lw_tbl, w.before args s = true) : ∀ i : Nat, i < 7 → (Cond.stringRef RX2 (ixJS i) (txJS.getD i "")).before args s = true := by
  intro i hi
  match i, hi with
  | 0, _ => exact h _ Lr_0
  | 1, _ => exact h _ Lr_1
  | 2, _ => exact h _ Lr_2
  | 3, _ => exact h _ Lr_3
  | 4, _ => exact h _ Lr_4
  | 5, _ => exact h _ Lr_5
  | 6, _ => exact h _ Lr_6
theorem sj_len : ∀ i : Nat, i < 7 → lenJS.getD i 0 < 2 ^ 31 := by decide
theorem vk_cg {N : Nat} {len : List Nat} {byt : List (List Int32)} {k1 k2 v1 v2 : Nat → Nat} {A : Nat → Prop} {U : State} {H : Heap} (e1 : ∀ i, i < N → k2 i = k1 i) (e2 : ∀ i, i < N → v2 i = v1 i) (h : vk_S N len byt k1 v1 A U H) : vk_S N len byt k2 v2 A U H := by
  refine ⟨fun i hi => ?_, fun i j hi hj e => h.2 i j hi hj (by rw [← e1 i hi, ← e1 j hj]; exact e)⟩
  rw [e1 i hi, e2 i hi]
  exact h.1 i hi
/-- addresses at the start: literals, a static, the script -/
def ad0 (k v : Nat → Nat) (t b : Nat) (j : Nat) : Nat := if j = 400 then b else if j = 300 then t else if 200 ≤ j then v (j - 200) else if 100 ≤ j then k (j - 100) else 0
theorem start_Sx {b : Nat} (l : Launch) (D : va_G) (ac : Nat → ClassId) (hts : ∀ w ∈ lw_tbl, w.before args s = true) (hg : (Jvm.Cond.and given_1 narrow_1).before args s = true) : ∃ k v t, Sx (l, D, ad0 k v t b, ac) (fun q : Nat => s.heap.size ≤ q) s s.heap := by
  have h := flat_of_before _ hg
  have hA : ∀ a : Nat, a < s.heap.size → ¬ (fun q : Nat => s.heap.size ≤ q) a := fun a z y => absurd (show s.heap.size ≤ a from y) (by omega)
  obtain ⟨k, v, hS, hE⟩ := vk_Sof (args := args) (s := s) (N := 7) (tm := tmJ) (len := lenJS) (byt := bytJS) sj_len (sj_ex h) (sj_co h) (sj_ar h) (sj_le h) (sj_el h) (sj_ne h) hA
  have hC : va_Z "java/lang/String" "COMPACT_STRINGS" "Z" (.int 1) (fun q : Nat => s.heap.size ≤ q) s s.heap := va_Zof (hts _ Ls_C) (hts _ Li_C) (va_eqi (h _ (by decide +kernel))) hA
  have hQ := va_Zqof (A := fun q : Nat => s.heap.size ≤ q) (hts _ Ls_P) (hts _ Li_P) (h _ (by decide +kernel)) hA
  have e1 : ∀ (t : Nat) (i : Nat), i < 7 → ad0 k v t b (100 + i) = k i := by
    intro t i hi
    unfold ad0
    rw [if_neg (by omega), if_neg (by omega), if_neg (by omega), if_pos (by omega), Nat.add_sub_cancel_left]
  have e2 : ∀ (t : Nat) (i : Nat), i < 7 → ad0 k v t b (200 + i) = v i := by
    intro t i hi
    unfold ad0
    rw [if_neg (by omega), if_neg (by omega), if_pos (by omega), Nat.add_sub_cancel_left]
  have hR : ∀ (t : Nat) (i : Nat), i < 7 → vk_R RX2 (ixJS i) (txJS.getD i "") (ad0 k v t b (100 + i)) s := by
    intro t i hi
    rw [e1 t i hi]
    exact vk_R.of (sj_ref hts i hi) (hE i hi)
  rcases hQ with z | ⟨t, z⟩
  · exact ⟨k, v, 0, vk_cg (e1 0) (e2 0) hS, hR 0, hC, Or.inl z⟩
  · exact ⟨k, v, t, vk_cg (e1 t) (e2 t) hS, hR t, hC, Or.inr z⟩
theorem start_N (hts : ∀ w ∈ lw_tbl, w.before args s = true) : Nst s := by
  intro w hw
  obtain ⟨h1, h2⟩ := List.mem_filter.mp hw
  cases w <;> first | (simp [isNest] at h2; done) | exact va_tabs rfl rfl (hts _ h1)
theorem start_A (hts : ∀ w ∈ lw_tbl, w.before args s = true) : ∃ ac : Nat → ClassId, ∀ (k : Nat) (q : ClassId × FieldType), ([(ac 0, .int), (ac 1, .long)] : List (ClassId × FieldType))[k]? = some q → ArrOfT s q.1 q.2 ∧ va_RA s q.1 q.2 := by
  obtain ⟨c0, k0, p0, a1, a2, a3⟩ := Cond.arrayClass_spec (hts _ (List.mem_filter.mp AC_I).1)
  obtain ⟨c1, k1, p1, b1, b2, b3⟩ := Cond.arrayClass_spec (hts _ (List.mem_filter.mp AC_L).1)
  refine ⟨fun j => if j = 0 then c0 else c1, fun k q hq => ?_⟩
  match k, hq with
  | 0, hq => cases hq; exact ⟨fun n z => ⟨fun k h => (by cases h), k0, a2, p0, a3⟩, a1⟩
  | 1, hq => cases hq; exact ⟨fun n z => ⟨fun k h => (by cases h), k1, b2, p1, b3⟩, b1⟩
  | k + 2, hq => simp at hq
theorem Ns_X0 : Cond.instantiable RX0 6 ∈ Ts := ts_in (List.mem_of_getElem? (i := 143) (by decide +kernel)) rfl
theorem Ns_X1 : Cond.instantiable RX1 11 ∈ Ts := ts_in (List.mem_of_getElem? (i := 191) (by decide +kernel)) rfl
theorem Ns_X2 : Cond.instantiable RX2 5 ∈ Ts := ts_in (List.mem_of_getElem? (i := 335) (by decide +kernel)) rfl
theorem Ns_X3 : Cond.instantiable RX3 4 ∈ Ts := ts_in (List.mem_of_getElem? (i := 119) (by decide +kernel)) rfl
theorem Ns_X4 : Cond.instantiable RX4 4 ∈ Ts := ts_in (List.mem_of_getElem? (i := 92) (by decide +kernel)) rfl
theorem Ns_X5 : Cond.instantiable RX5 5 ∈ Ts := ts_in (List.mem_of_getElem? (i := 240) (by decide +kernel)) rfl
theorem Ns_X6 : Cond.instantiable RX6 8 ∈ Ts := ts_in (List.mem_of_getElem? (i := 264) (by decide +kernel)) rfl
theorem Ns_X7 : Cond.instantiable RX7 2 ∈ Ts := ts_in (List.mem_of_getElem? (i := 175) (by decide +kernel)) rfl
theorem Ns_X8 : Cond.instantiable RX8 5 ∈ Ts := ts_in (List.mem_of_getElem? (i := 296) (by decide +kernel)) rfl
theorem Ns_X9 : Cond.instantiable RX9 12 ∈ Ts := ts_in (List.mem_of_getElem? (i := 84) (by decide +kernel)) rfl
theorem Ns_X10 : Cond.instantiable RX10 53 ∈ Ts := ts_in (List.mem_of_getElem? (i := 729) (by decide +kernel)) rfl
theorem start_K (hT : ∀ w ∈ Ts, w.before args s = true) : ∃ D : va_G, ∀ (k : Nat) (q : vw_C), vwCl[k]? = some q → u_Kn s q.1 q.2.1 q.2.2 (D.1 k) (D.2 k) := by
  obtain ⟨c0v, i0v, hk0⟩ := u_known (C := RX0) (T := TX0) (N := 6) (n := 6) hT Cok_0.2.1 (hT _ Ns_X0)
  obtain ⟨c1v, i1v, hk1⟩ := u_known (C := RX1) (T := TX1) (N := 11) (n := 11) hT Cok_1.2.1 (hT _ Ns_X1)
  obtain ⟨c2v, i2v, hk2⟩ := u_known (C := RX2) (T := TX2) (N := 5) (n := 5) hT Cok_2.2.1 (hT _ Ns_X2)
  obtain ⟨c3v, i3v, hk3⟩ := u_known (C := RX3) (T := TX3) (N := 4) (n := 4) hT Cok_3.2.1 (hT _ Ns_X3)
  obtain ⟨c4v, i4v, hk4⟩ := u_known (C := RX4) (T := TX4) (N := 4) (n := 4) hT Cok_4.2.1 (hT _ Ns_X4)
  obtain ⟨c5v, i5v, hk5⟩ := u_known (C := RX5) (T := TX5) (N := 5) (n := 5) hT Cok_5.2.1 (hT _ Ns_X5)
  obtain ⟨c6v, i6v, hk6⟩ := u_known (C := RX6) (T := TX6) (N := 8) (n := 8) hT Cok_6.2.1 (hT _ Ns_X6)
  obtain ⟨c7v, i7v, hk7⟩ := u_known (C := RX7) (T := TX7) (N := 2) (n := 2) hT Cok_7.2.1 (hT _ Ns_X7)
  obtain ⟨c8v, i8v, hk8⟩ := u_known (C := RX8) (T := TX8) (N := 5) (n := 5) hT Cok_8.2.1 (hT _ Ns_X8)
  obtain ⟨c9v, i9v, hk9⟩ := u_known (C := RX9) (T := TX9) (N := 12) (n := 12) hT Cok_9.2.1 (hT _ Ns_X9)
  obtain ⟨c10v, i10v, hk10⟩ := u_known (C := RX10) (T := TX10) (N := 53) (n := 53) hT Cok_10.2.1 (hT _ Ns_X10)
  refine ⟨(fun k => if k = 0 then c0v else if k = 1 then c1v else if k = 2 then c2v else if k = 3 then c3v else if k = 4 then c4v else if k = 5 then c5v else if k = 6 then c6v else if k = 7 then c7v else if k = 8 then c8v else if k = 9 then c9v else c10v, fun k => if k = 0 then i0v else if k = 1 then i1v else if k = 2 then i2v else if k = 3 then i3v else if k = 4 then i4v else if k = 5 then i5v else if k = 6 then i6v else if k = 7 then i7v else if k = 8 then i8v else if k = 9 then i9v else i10v), ?_⟩
  intro k q hq
  match k, hq with
  | 0, hq => cases hq; exact hk0
  | 1, hq => cases hq; exact hk1
  | 2, hq => cases hq; exact hk2
  | 3, hq => cases hq; exact hk3
  | 4, hq => cases hq; exact hk4
  | 5, hq => cases hq; exact hk5
  | 6, hq => cases hq; exact hk6
  | 7, hq => cases hq; exact hk7
  | 8, hq => cases hq; exact hk8
  | 9, hq => cases hq; exact hk9
  | 10, hq => cases hq; exact hk10
  | k + 11, hq => simp [vwCl] at hq
end STT
