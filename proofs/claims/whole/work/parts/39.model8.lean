section MO8
variable {g : GG} {S : St}
theorem setB_ne (X : St) {n m : Nat} (h : m ≠ n) (f : Nat → Int64) : (setB X n f).2.2.2.1 m = X.2.2.2.1 m := by
  show va_up X.2.2.2.1 n f m = _
  simp [va_up, h]
theorem gvB_ne (grp : Int32) (lo : Int64) {m : Nat} (hm : m ≠ 15) : ∀ (k : Nat) (p : St × Int64 × Int64), (it (gvB grp lo) k p).1.2.2.2.1 m = p.1.2.2.2.1 m
  | 0, _ => rfl
  | k + 1, p => by
    rw [it_s]
    have h := gvB_ne grp lo hm k p
    generalize it (gvB grp lo) k p = q at *
    unfold gvB
    split
    · exact (setB_ne _ hm _).trans h
    · exact h
theorem pyB_ne (grp : Int32) {m : Nat} (hm : m ≠ 16) : ∀ (k : Nat) (p : St × Int64), (it (pyB grp) k p).1.2.2.2.1 m = p.1.2.2.2.1 m
  | 0, _ => rfl
  | k + 1, p => by
    rw [it_s]
    have h := pyB_ne grp hm k p
    generalize it (pyB grp) k p = q at *
    unfold pyB
    split
    · exact (setB_ne _ hm _).trans h
    · exact h
theorem standM_ne (grp : Int32) (n : Nat) {m : Nat} (h1 : m ≠ 15) (h2 : m ≠ 16) (S : St) : (standM grp n S).2.2.2.1 m = S.2.2.2.1 m := (pyB_ne grp h2 n _).trans (gvB_ne grp _ h1 n _)
theorem stB_ne (n : Nat) {m : Nat} (h1 : m ≠ 15) (h2 : m ≠ 16) : ∀ (k : Nat) (S : St), (it (stB n) k S).2.2.2.1 m = S.2.2.2.1 m
  | 0, _ => rfl
  | k + 1, S => (standM_ne (nI k) n h1 h2 _).trans (stB_ne n h1 h2 k S)
theorem c_X10_reckon {day : Int32} {nf nc nb : Nat} (hB : Bm S nf nc nb) (hc : ∀ k, k < nf → ((rkS day nf nc nb S).2.2.2.1 14 k).toInt < 2 ^ 61) : Ct g mX10_reckon [.ref 43, .int day] (hC S) (RV (reckonM day nf nc nb S)) := by
  have hB4 := hB.eq (rkS_eq day nf nc nb S)
  have L : ∀ (X : St), Bm X nf nc nb → (∀ k, k < nf → (X.2.2.2.1 14 k).toInt < 2 ^ 61) → ∀ k, k ≤ 10 → Ev g mX10_reckon 409 [(0, .ref 43), (1, .int day), (2, .int (nI k))] [] (hC (it (stB nf) k X)) (RV (it (stB nf) 10 X)) := by
    intro X hX hcX
    refine loop_up 10 ?_ ?_
    · skip
      refine ev_iload_n (pc := 409) dX10_reckon_409 rfl ?_
      refine ev_bipush (pc := 410) (v := nI 10) dX10_reckon_410 (by decide) ?_
      refine ev_icmp_geN (pc := 412) (tgt := 426) (by omega) (by omega) dX10_reckon_412 (by decide) (fun cq412 => ?_) (fun cq412 => absurd (Nat.le_refl 10) cq412)
      exact ev_ret (pc := 426) dX10_reckon_426 rfl rv
    · intro k hk ih
      obtain ⟨hs, hn, -⟩ := hX.eq (eqB.it (stB_eq nf) k X)
      have hcn : ∀ j, j < nf → ((it (stB nf) k X).2.2.2.1 14 j).toInt < 2 ^ 61 := fun j hj => by rw [stB_ne nf (by decide) (by decide)]; exact hcX j hj
      refine ev_iload_n (pc := 409) dX10_reckon_409 rfl ?_
      refine ev_bipush (pc := 410) (v := nI 10) dX10_reckon_410 (by decide) ?_
      refine ev_icmp_geN (pc := 412) (tgt := 426) (by omega) (by omega) dX10_reckon_412 (by decide) (fun cq412 => absurd cq412 (by omega)) (fun cq412 => ?_)
      refine ev_aload_n (pc := 415) dX10_reckon_415 rfl ?_
      refine ev_iload_n (pc := 416) dX10_reckon_416 rfl ?_
      refine callV1V (pc := 417) dX10_reckon_417 Ml_X10_240 M_X10_stand rfl rfl rfl rfl (c_X10_stand hs hn hcn) ?_
      refine ev_iincN (pc := 420) (lv' := [(0, .ref 43), (1, .int _), (2, .int _)]) dX10_reckon_420 rfl (Nat.le_of_ble_eq_true rfl) rfl ?_
      refine ev_goto (pc := 423) (tgt := 409) dX10_reckon_423 (by decide) ?_
      exact ih
  have L0 := L _ hB4 hc 0 (by omega)
  rw [it_0] at L0
  refine ct_of rfl rfl ?_
  refine rk_0 hB _ ?_
  refine rk_1 (hB.eq (eqB.it rkB0_eq nf S)) _ ?_
  refine rk_2 (hB.eq ((eqB.it (rkB1_eq day) nc _).tr (eqB.it rkB0_eq nf S))) _ ?_
  refine rk_3 (hB.eq ((eqB.it (rkB2_eq day) nb _).tr ((eqB.it (rkB1_eq day) nc _).tr (eqB.it rkB0_eq nf S)))) _ ?_
  refine ev_iconst (pc := 407) (v := nI 0) dX10_reckon_407 (by decide) ?_
  refine ev_istore_n (pc := 408) (lv' := [(0, .ref 43), (1, .int _), (2, .int _)]) dX10_reckon_408 (Nat.le_of_ble_eq_true rfl) rfl ?_
  exact L0
def ofVM (nd i : Nat) (X : St) (j : Nat) : Int64 := match j with
  | 0 => X.2.2.2.1 8 i
  | 1 => X.2.2.2.1 9 i
  | 2 => X.2.2.2.1 10 i
  | 3 => X.2.2.2.1 11 i
  | 4 => X.2.2.2.1 10 i - X.2.2.2.1 11 i
  | 5 => X.2.2.2.1 9 i - X.2.2.2.1 11 i
  | 6 => X.2.2.2.1 15 i
  | 7 => X.2.2.2.1 10 i - X.2.2.2.1 11 i - X.2.2.2.1 15 i
  | 8 => X.2.2.2.1 16 i
  | 9 => foreM nd i X
  | _ => if partM X 3 (foreM nd i X) ≤ X.2.2.2.1 8 i then 0 else 1
def ofM (nf nc nb nd : Nat) (f day w : Int32) (S : St) : Int64 × St :=
  if outB f 0 (nI nf - 1) = true then (-1, th S) else if outB day 0 400 = true then (-1, th S) else
  (if outB w 0 10 = true then -1 else ofVM nd f.toNatClampNeg (reckonM day nf nc nb (th S)) w.toNatClampNeg, reckonM day nf nc nb (th S))
theorem outB_out {w : Int32} (h : outB w 0 10 = true) : w.toInt < 0 ∨ 10 < w.toInt := by
  unfold outB at h
  simp only [Bool.or_eq_true, decide_eq_true_eq, Bool.not_eq_true', decide_eq_false_iff_not] at h
  rw [Int32.lt_iff_toInt_lt, Int32.le_iff_toInt_le, show (0 : Int32).toInt = 0 by decide, show (10 : Int32).toInt = 10 by decide] at h
  omega
theorem of_tailM {nf nc nb nd i j : Nat} {day : Int32} {X : St} (hB : Bm X nf nc nb) (hi : i < 40) (hs : X.1 36 = nI nd) (hd : nd ≤ 60) (hj : j ≤ 10) : Ev g mX10_of 29 [(0, .ref 43), (1, .int (nI i)), (2, .int day), (3, .int (nI j))] [] (hC X) (RJl (ofVM nd i X j) X) := by
  obtain ⟨-, -, -, -, -, -, -, -, -, hp⟩ := hB
  refine ev_iload_n (pc := 29) dX10_of_29 rfl ?_
  rcases (show j = 0 ∨ j = 1 ∨ j = 2 ∨ j = 3 ∨ j = 4 ∨ j = 5 ∨ j = 6 ∨ j = 7 ∨ j = 8 ∨ j = 9 ∨ j = 10 by omega) with rfl | rfl | rfl | rfl | rfl | rfl | rfl | rfl | rfl | rfl | rfl
  · refine ev_tabIn (pc := 30) (tgt := 88) (off := 58) dX10_of_30 (by decide) (by decide) (by decide) (by decide) ?_
    refine ev_aload_n (pc := 88) dX10_of_88 rfl ?_
    refine get_MO_weights (pc := 89) dX10_of_89 Fl_X10_68 ?_
    refine ev_iload_n (pc := 92) dX10_of_92 rfl ?_
    refine ldN_MO_weights (pc := 93) dX10_of_93 (by omega) rfl ?_
    exact ev_lret (pc := 94) dX10_of_94 rfl rl
  · refine ev_tabIn (pc := 30) (tgt := 95) (off := 65) dX10_of_30 (by decide) (by decide) (by decide) (by decide) ?_
    refine ev_aload_n (pc := 95) dX10_of_95 rfl ?_
    refine get_MO_owes (pc := 96) dX10_of_96 Fl_X10_72 ?_
    refine ev_iload_n (pc := 99) dX10_of_99 rfl ?_
    refine ldN_MO_owes (pc := 100) dX10_of_100 (by omega) rfl ?_
    exact ev_lret (pc := 101) dX10_of_101 rfl rl
  · refine ev_tabIn (pc := 30) (tgt := 102) (off := 72) dX10_of_30 (by decide) (by decide) (by decide) (by decide) ?_
    refine ev_aload_n (pc := 102) dX10_of_102 rfl ?_
    refine get_MO_checks (pc := 103) dX10_of_103 Fl_X10_75 ?_
    refine ev_iload_n (pc := 106) dX10_of_106 rfl ?_
    refine ldN_MO_checks (pc := 107) dX10_of_107 (by omega) rfl ?_
    exact ev_lret (pc := 108) dX10_of_108 rfl rl
  · refine ev_tabIn (pc := 30) (tgt := 109) (off := 79) dX10_of_30 (by decide) (by decide) (by decide) (by decide) ?_
    refine ev_aload_n (pc := 109) dX10_of_109 rfl ?_
    refine get_MO_offs (pc := 110) dX10_of_110 Fl_X10_78 ?_
    refine ev_iload_n (pc := 113) dX10_of_113 rfl ?_
    refine ldN_MO_offs (pc := 114) dX10_of_114 (by omega) rfl ?_
    exact ev_lret (pc := 115) dX10_of_115 rfl rl
  · refine ev_tabIn (pc := 30) (tgt := 116) (off := 86) dX10_of_30 (by decide) (by decide) (by decide) (by decide) ?_
    refine ev_aload_n (pc := 116) dX10_of_116 rfl ?_
    refine get_MO_checks (pc := 117) dX10_of_117 Fl_X10_75 ?_
    refine ev_iload_n (pc := 120) dX10_of_120 rfl ?_
    refine ldN_MO_checks (pc := 121) dX10_of_121 (by omega) rfl ?_
    refine ev_aload_n (pc := 122) dX10_of_122 rfl ?_
    refine get_MO_offs (pc := 123) dX10_of_123 Fl_X10_78 ?_
    refine ev_iload_n (pc := 126) dX10_of_126 rfl ?_
    refine ldN_MO_offs (pc := 127) dX10_of_127 (by omega) rfl ?_
    refine ev_lsub (pc := 128) dX10_of_128 ?_
    exact ev_lret (pc := 129) dX10_of_129 rfl rl
  · refine ev_tabIn (pc := 30) (tgt := 130) (off := 100) dX10_of_30 (by decide) (by decide) (by decide) (by decide) ?_
    refine ev_aload_n (pc := 130) dX10_of_130 rfl ?_
    refine get_MO_owes (pc := 131) dX10_of_131 Fl_X10_72 ?_
    refine ev_iload_n (pc := 134) dX10_of_134 rfl ?_
    refine ldN_MO_owes (pc := 135) dX10_of_135 (by omega) rfl ?_
    refine ev_aload_n (pc := 136) dX10_of_136 rfl ?_
    refine get_MO_offs (pc := 137) dX10_of_137 Fl_X10_78 ?_
    refine ev_iload_n (pc := 140) dX10_of_140 rfl ?_
    refine ldN_MO_offs (pc := 141) dX10_of_141 (by omega) rfl ?_
    refine ev_lsub (pc := 142) dX10_of_142 ?_
    exact ev_lret (pc := 143) dX10_of_143 rfl rl
  · refine ev_tabIn (pc := 30) (tgt := 144) (off := 114) dX10_of_30 (by decide) (by decide) (by decide) (by decide) ?_
    refine ev_aload_n (pc := 144) dX10_of_144 rfl ?_
    refine get_MO_given (pc := 145) dX10_of_145 Fl_X10_90 ?_
    refine ev_iload_n (pc := 148) dX10_of_148 rfl ?_
    refine ldN_MO_given (pc := 149) dX10_of_149 (by omega) rfl ?_
    exact ev_lret (pc := 150) dX10_of_150 rfl rl
  · refine ev_tabIn (pc := 30) (tgt := 151) (off := 121) dX10_of_30 (by decide) (by decide) (by decide) (by decide) ?_
    refine ev_aload_n (pc := 151) dX10_of_151 rfl ?_
    refine get_MO_checks (pc := 152) dX10_of_152 Fl_X10_75 ?_
    refine ev_iload_n (pc := 155) dX10_of_155 rfl ?_
    refine ldN_MO_checks (pc := 156) dX10_of_156 (by omega) rfl ?_
    refine ev_aload_n (pc := 157) dX10_of_157 rfl ?_
    refine get_MO_offs (pc := 158) dX10_of_158 Fl_X10_78 ?_
    refine ev_iload_n (pc := 161) dX10_of_161 rfl ?_
    refine ldN_MO_offs (pc := 162) dX10_of_162 (by omega) rfl ?_
    refine ev_lsub (pc := 163) dX10_of_163 ?_
    refine ev_aload_n (pc := 164) dX10_of_164 rfl ?_
    refine get_MO_given (pc := 165) dX10_of_165 Fl_X10_90 ?_
    refine ev_iload_n (pc := 168) dX10_of_168 rfl ?_
    refine ldN_MO_given (pc := 169) dX10_of_169 (by omega) rfl ?_
    refine ev_lsub (pc := 170) dX10_of_170 ?_
    exact ev_lret (pc := 171) dX10_of_171 rfl rl
  · refine ev_tabIn (pc := 30) (tgt := 172) (off := 142) dX10_of_30 (by decide) (by decide) (by decide) (by decide) ?_
    refine ev_aload_n (pc := 172) dX10_of_172 rfl ?_
    refine get_MO_left (pc := 173) dX10_of_173 Fl_X10_93 ?_
    refine ev_iload_n (pc := 176) dX10_of_176 rfl ?_
    refine ldN_MO_left (pc := 177) dX10_of_177 (by omega) rfl ?_
    exact ev_lret (pc := 178) dX10_of_178 rfl rl
  · refine ev_tabIn (pc := 30) (tgt := 179) (off := 149) dX10_of_30 (by decide) (by decide) (by decide) (by decide) ?_
    refine ev_aload_n (pc := 179) dX10_of_179 rfl ?_
    refine ev_iload_n (pc := 180) dX10_of_180 rfl ?_
    refine callV1L (pc := 181) dX10_of_181 Ml_X10_260 M_X10_foretold rfl rfl rfl rfl (c_X10_foretold hi hs hd) ?_
    exact ev_lret (pc := 184) dX10_of_184 rfl rl
  · refine ev_tabIn (pc := 30) (tgt := 185) (off := 155) dX10_of_30 (by decide) (by decide) (by decide) (by decide) ?_
    refine ev_aload_n (pc := 185) dX10_of_185 rfl ?_
    refine get_MO_weights (pc := 186) dX10_of_186 Fl_X10_68 ?_
    refine ev_iload_n (pc := 189) dX10_of_189 rfl ?_
    refine ldN_MO_weights (pc := 190) dX10_of_190 (by omega) rfl ?_
    refine ev_aload_n (pc := 191) dX10_of_191 rfl ?_
    refine ev_aload_n (pc := 192) dX10_of_192 rfl ?_
    refine ev_iload_n (pc := 193) dX10_of_193 rfl ?_
    refine callV1L (pc := 194) dX10_of_194 Ml_X10_260 M_X10_foretold rfl rfl rfl rfl (c_X10_foretold hi hs hd) ?_
    refine ev_iconst (pc := 197) (v := nI 3) dX10_of_197 (by decide) ?_
    refine callV2L (pc := 198) dX10_of_198 Ml_X10_236 M_X10_partOf rfl rfl rfl rfl (c_X10_partOf (by decide) (hp 3 (by decide))) ?_
    refine ev_lcmp_ge (pc := 201) (tgt := 209) dX10_of_201 dX10_of_202 (by decide) (fun cq201 => ?_) (fun cq201 => ?_)
    · show Ev _ _ _ _ _ _ (RJl (if partM X 3 (foreM nd i X) ≤ X.2.2.2.1 8 i then 0 else 1) X)
      rw [if_pos cq201]
      refine ev_lconst (pc := 209) (v := 0) dX10_of_209 (by decide) ?_
      exact ev_lret (pc := 210) dX10_of_210 rfl rl
    · show Ev _ _ _ _ _ _ (RJl (if partM X 3 (foreM nd i X) ≤ X.2.2.2.1 8 i then 0 else 1) X)
      rw [if_neg cq201]
      refine ev_lconst (pc := 205) (v := 1) dX10_of_205 (by decide) ?_
      refine ev_goto (pc := 206) (tgt := 210) dX10_of_206 (by decide) ?_
      exact ev_lret (pc := 210) dX10_of_210 rfl rl
theorem c_X10_of {f day w : Int32} {nf nc nb nd : Nat} (hB : Bm S nf nc nb) (hs : S.1 36 = nI nd) (hd : nd ≤ 60) (hc : ∀ k, k < nf → ((rkS day nf nc nb (th S)).2.2.2.1 14 k).toInt < 2 ^ 61) : Ct g mX10_of [.ref 43, .int f, .int day, .int w] (hC S) (RJl (ofM nf nc nb nd f day w S).1 (ofM nf nc nb nd f day w S).2) := by
  have hB1 : Bm (th S) nf nc nb := hB
  obtain ⟨hF, hnf, -⟩ := id hB
  have e := reckonM_eq day nf nc nb (th S)
  refine ct_of rfl rfl ?_
  unfold ofM
  refine ev_aload_n (pc := 0) dX10_of_0 rfl ?_
  refine ev_iconst (pc := 1) (v := 0) dX10_of_1 (by decide) ?_
  refine put_MO_thrown (pc := 2) dX10_of_2 Fp_X10_117 ?_
  refine ev_aload_n (pc := 5) dX10_of_5 rfl ?_
  refine ev_iload_n (pc := 6) dX10_of_6 rfl ?_
  refine callV1I (pc := 7) dX10_of_7 Ml_X10_148 M_X10_isFarmer rfl rfl rfl rfl (c_X10_isFarmer (S := th S) hF hnf) ?_
  refine ev_if_eqB (pc := 10) (tgt := 20) dX10_of_10 (by decide) (fun cq10 => ?_) (fun cq10 => ?_)
  · rw [if_pos (bnot_f cq10)]
    refine ev_ldc2 (pc := 20) dX10_of_20 Cn_X10_189 ?_
    exact ev_lret (pc := 23) dX10_of_23 rfl rl
  · rw [if_neg (bnot_t cq10)]
    obtain ⟨i, hi, rfl⟩ := outB_idx (f := f) (n := nf) (by omega) (by simpa using cq10)
    rw [nI_clamp (by omega)]
    refine ev_iload_n (pc := 13) dX10_of_13 rfl ?_
    refine callS1I (pc := 14) dX10_of_14 Ml_X10_144 M_X10_isDay rfl rfl c_X10_isDay ?_
    refine ev_if_neB (pc := 17) (tgt := 24) dX10_of_17 (by decide) (fun cq17 => ?_) (fun cq17 => ?_)
    · rw [if_neg (bnot_t cq17)]
      refine ev_aload_n (pc := 24) dX10_of_24 rfl ?_
      refine ev_iload_n (pc := 25) dX10_of_25 rfl ?_
      refine callV1V (pc := 26) dX10_of_26 Ml_X10_257 M_X10_reckon rfl rfl rfl rfl (c_X10_reckon hB1 hc) ?_
      generalize hR : reckonM day nf nc nb (th S) = X at *
      have hX : Bm X nf nc nb := hB1.eq e
      have hsX : X.1 36 = nI nd := by rw [e.1]; exact hs
      cases hw : outB w 0 10 with
      | true =>
        rw [if_pos rfl]
        refine ev_iload_n (pc := 29) dX10_of_29 rfl ?_
        refine ev_tabOut (pc := 30) (tgt := 211) dX10_of_30 (outB_out hw) (by decide) ?_
        refine ev_ldc2 (pc := 211) dX10_of_211 Cn_X10_189 ?_
        exact ev_lret (pc := 214) dX10_of_214 rfl rl
      | false =>
        rw [if_neg (by decide)]
        obtain ⟨j, hj, rfl⟩ := outB_rng (n := 10) (by decide) hw
        rw [nI_clamp (by omega)]
        exact of_tailM hX (by omega) hsX hd hj
    · rw [if_pos (bnot_f cq17)]
      refine ev_ldc2 (pc := 20) dX10_of_20 Cn_X10_189 ?_
      exact ev_lret (pc := 23) dX10_of_23 rfl rl
def gsF (gr : Nat → Int32) (ow of gi le : Nat → Int64) (grp w : Int32) : Nat → Int64
  | 0 => 0
  | k + 1 => if gr k = grp then gsF gr ow of gi le grp w k + (if w = 0 then 1 else if w = 1 then ow k - of k else if w = 2 then gi k else le k) else gsF gr ow of gi le grp w k
def groupM (nf nc nb : Nat) (gr day w : Int32) (S : St) : Int64 × St :=
  if outB gr 0 9 = true then (-1, th S) else if outB day 0 400 = true then (-1, th S) else if outB w 0 3 = true then (-1, th S) else
  (gsF ((reckonM day nf nc nb (th S)).2.1 24) ((reckonM day nf nc nb (th S)).2.2.2.1 9) ((reckonM day nf nc nb (th S)).2.2.2.1 11) ((reckonM day nf nc nb (th S)).2.2.2.1 15) ((reckonM day nf nc nb (th S)).2.2.2.1 16) gr w nf, reckonM day nf nc nb (th S))
theorem c_X10_group {gr day w : Int32} {nf nc nb : Nat} (hB : Bm S nf nc nb) (hc : ∀ k, k < nf → ((rkS day nf nc nb (th S)).2.2.2.1 14 k).toInt < 2 ^ 61) : Ct g mX10_group [.ref 43, .int gr, .int day, .int w] (hC S) (RJl (groupM nf nc nb gr day w S).1 (groupM nf nc nb gr day w S).2) := by
  have hB1 : Bm (th S) nf nc nb := hB
  have e := reckonM_eq day nf nc nb (th S)
  have L : ∀ (X : St), Bm X nf nc nb → ∀ k, k ≤ nf → Ev g mX10_group 51 [(0, .ref 43), (1, .int gr), (2, .int day), (3, .int w), (4, .long (gsF (X.2.1 24) (X.2.2.2.1 9) (X.2.2.2.1 11) (X.2.2.2.1 15) (X.2.2.2.1 16) gr w k)), (6, .int (nI k))] [] (hC X) (RJl (gsF (X.2.1 24) (X.2.2.2.1 9) (X.2.2.2.1 11) (X.2.2.2.1 15) (X.2.2.2.1 16) gr w nf) X) := by
    intro X hX
    obtain ⟨hs, hn, -⟩ := hX
    refine loop_up nf ?_ ?_
    · skip
      refine ev_iload (pc := 51) dX10_group_51 rfl ?_
      refine ev_aload_n (pc := 53) dX10_group_53 rfl ?_
      refine get_MO_farmers (pc := 54) dX10_group_54 Fl_X10_129 hs ?_
      refine ev_icmp_geN (pc := 57) (tgt := 135) (by omega) (by omega) dX10_group_57 (by decide) (fun cq57 => ?_) (fun cq57 => absurd (Nat.le_refl nf) cq57)
      refine ev_lload (pc := 135) dX10_group_135 rfl ?_
      exact ev_lret (pc := 137) dX10_group_137 rfl rl
    · intro k hk ih
      rw [gsF] at ih
      refine ev_iload (pc := 51) dX10_group_51 rfl ?_
      refine ev_aload_n (pc := 53) dX10_group_53 rfl ?_
      refine get_MO_farmers (pc := 54) dX10_group_54 Fl_X10_129 hs ?_
      refine ev_icmp_geN (pc := 57) (tgt := 135) (by omega) (by omega) dX10_group_57 (by decide) (fun cq57 => absurd cq57 (by omega)) (fun cq57 => ?_)
      refine ev_aload_n (pc := 60) dX10_group_60 rfl ?_
      refine get_MO_fGroup (pc := 61) dX10_group_61 Fl_X10_7 ?_
      refine ev_iload (pc := 64) dX10_group_64 rfl ?_
      refine ldN_MO_fGroup (pc := 66) dX10_group_66 (by omega) rfl ?_
      refine ev_iload_n (pc := 67) dX10_group_67 rfl ?_
      refine ev_icmp_ne (pc := 68) (tgt := 129) dX10_group_68 (by decide) (fun cq68 => ?_) (fun cq68 => ?_)
      · rw [if_neg cq68] at ih
        refine ev_iincN (pc := 129) (lv' := [(0, .ref 43), (1, .int _), (2, .int _), (3, .int _), (4, .long _), (6, .int _)]) dX10_group_129 rfl (Nat.le_of_ble_eq_true rfl) rfl ?_
        refine ev_goto (pc := 132) (tgt := 51) dX10_group_132 (by decide) ?_
        exact ih
      · rw [if_pos cq68] at ih
        refine ev_lload (pc := 71) dX10_group_71 rfl ?_
        refine ev_iload_n (pc := 73) dX10_group_73 rfl ?_
        refine ev_if_ne (pc := 74) (tgt := 81) dX10_group_74 (by decide) (fun cq74 => ?_) (fun cq74 => ?_)
        · rw [if_neg cq74] at ih
          refine ev_iload_n (pc := 81) dX10_group_81 rfl ?_
          refine ev_iconst (pc := 82) (v := 1) dX10_group_82 (by decide) ?_
          refine ev_icmp_ne (pc := 83) (tgt := 104) dX10_group_83 (by decide) (fun cq83 => ?_) (fun cq83 => ?_)
          · rw [if_neg cq83] at ih
            refine ev_iload_n (pc := 104) dX10_group_104 rfl ?_
            refine ev_iconst (pc := 105) (v := 2) dX10_group_105 (by decide) ?_
            refine ev_icmp_ne (pc := 106) (tgt := 119) dX10_group_106 (by decide) (fun cq106 => ?_) (fun cq106 => ?_)
            · rw [if_neg cq106] at ih
              refine ev_aload_n (pc := 119) dX10_group_119 rfl ?_
              refine get_MO_left (pc := 120) dX10_group_120 Fl_X10_93 ?_
              refine ev_iload (pc := 123) dX10_group_123 rfl ?_
              refine ldN_MO_left (pc := 125) dX10_group_125 (by omega) rfl ?_
              refine ev_ladd (pc := 126) dX10_group_126 ?_
              refine ev_lstore (pc := 127) (lv' := [(0, .ref 43), (1, .int _), (2, .int _), (3, .int _), (4, .long _), (6, .int _)]) dX10_group_127 (Nat.le_of_ble_eq_true rfl) rfl ?_
              refine ev_iincN (pc := 129) (lv' := [(0, .ref 43), (1, .int _), (2, .int _), (3, .int _), (4, .long _), (6, .int _)]) dX10_group_129 rfl (Nat.le_of_ble_eq_true rfl) rfl ?_
              refine ev_goto (pc := 132) (tgt := 51) dX10_group_132 (by decide) ?_
              exact ih
            · rw [if_pos cq106] at ih
              refine ev_aload_n (pc := 109) dX10_group_109 rfl ?_
              refine get_MO_given (pc := 110) dX10_group_110 Fl_X10_90 ?_
              refine ev_iload (pc := 113) dX10_group_113 rfl ?_
              refine ldN_MO_given (pc := 115) dX10_group_115 (by omega) rfl ?_
              refine ev_goto (pc := 116) (tgt := 126) dX10_group_116 (by decide) ?_
              refine ev_ladd (pc := 126) dX10_group_126 ?_
              refine ev_lstore (pc := 127) (lv' := [(0, .ref 43), (1, .int _), (2, .int _), (3, .int _), (4, .long _), (6, .int _)]) dX10_group_127 (Nat.le_of_ble_eq_true rfl) rfl ?_
              refine ev_iincN (pc := 129) (lv' := [(0, .ref 43), (1, .int _), (2, .int _), (3, .int _), (4, .long _), (6, .int _)]) dX10_group_129 rfl (Nat.le_of_ble_eq_true rfl) rfl ?_
              refine ev_goto (pc := 132) (tgt := 51) dX10_group_132 (by decide) ?_
              exact ih
          · rw [if_pos cq83] at ih
            refine ev_aload_n (pc := 86) dX10_group_86 rfl ?_
            refine get_MO_owes (pc := 87) dX10_group_87 Fl_X10_72 ?_
            refine ev_iload (pc := 90) dX10_group_90 rfl ?_
            refine ldN_MO_owes (pc := 92) dX10_group_92 (by omega) rfl ?_
            refine ev_aload_n (pc := 93) dX10_group_93 rfl ?_
            refine get_MO_offs (pc := 94) dX10_group_94 Fl_X10_78 ?_
            refine ev_iload (pc := 97) dX10_group_97 rfl ?_
            refine ldN_MO_offs (pc := 99) dX10_group_99 (by omega) rfl ?_
            refine ev_lsub (pc := 100) dX10_group_100 ?_
            refine ev_goto (pc := 101) (tgt := 126) dX10_group_101 (by decide) ?_
            refine ev_ladd (pc := 126) dX10_group_126 ?_
            refine ev_lstore (pc := 127) (lv' := [(0, .ref 43), (1, .int _), (2, .int _), (3, .int _), (4, .long _), (6, .int _)]) dX10_group_127 (Nat.le_of_ble_eq_true rfl) rfl ?_
            refine ev_iincN (pc := 129) (lv' := [(0, .ref 43), (1, .int _), (2, .int _), (3, .int _), (4, .long _), (6, .int _)]) dX10_group_129 rfl (Nat.le_of_ble_eq_true rfl) rfl ?_
            refine ev_goto (pc := 132) (tgt := 51) dX10_group_132 (by decide) ?_
            exact ih
        · rw [if_pos cq74] at ih
          refine ev_lconst (pc := 77) (v := 1) dX10_group_77 (by decide) ?_
          refine ev_goto (pc := 78) (tgt := 126) dX10_group_78 (by decide) ?_
          refine ev_ladd (pc := 126) dX10_group_126 ?_
          refine ev_lstore (pc := 127) (lv' := [(0, .ref 43), (1, .int _), (2, .int _), (3, .int _), (4, .long _), (6, .int _)]) dX10_group_127 (Nat.le_of_ble_eq_true rfl) rfl ?_
          refine ev_iincN (pc := 129) (lv' := [(0, .ref 43), (1, .int _), (2, .int _), (3, .int _), (4, .long _), (6, .int _)]) dX10_group_129 rfl (Nat.le_of_ble_eq_true rfl) rfl ?_
          refine ev_goto (pc := 132) (tgt := 51) dX10_group_132 (by decide) ?_
          exact ih
  refine ct_of rfl rfl ?_
  unfold groupM
  refine ev_aload_n (pc := 0) dX10_group_0 rfl ?_
  refine ev_iconst (pc := 1) (v := 0) dX10_group_1 (by decide) ?_
  refine put_MO_thrown (pc := 2) dX10_group_2 Fp_X10_117 ?_
  refine ev_iload_n (pc := 5) dX10_group_5 rfl ?_
  refine ev_i2l (pc := 6) dX10_group_6 ?_
  refine ev_lconst (pc := 7) (v := 0) dX10_group_7 (by decide) ?_
  refine ev_ldc2 (pc := 8) dX10_group_8 Cn_X10_132 ?_
  refine callS3I (pc := 11) dX10_group_11 Ml_X10_125 M_X10_in rfl rfl (c_X10_in (lo := 0) (hi := 9) rfl (by decide) (by decide)) ?_
  refine ev_if_eqB (pc := 14) (tgt := 36) dX10_group_14 (by decide) (fun cq14 => ?_) (fun cq14 => ?_)
  · rw [if_pos (bnot_f cq14)]
    refine ev_ldc2 (pc := 36) dX10_group_36 Cn_X10_189 ?_
    exact ev_lret (pc := 39) dX10_group_39 rfl rl
  · rw [if_neg (bnot_t cq14)]
    refine ev_iload_n (pc := 17) dX10_group_17 rfl ?_
    refine callS1I (pc := 18) dX10_group_18 Ml_X10_144 M_X10_isDay rfl rfl c_X10_isDay ?_
    refine ev_if_eqB (pc := 21) (tgt := 36) dX10_group_21 (by decide) (fun cq21 => ?_) (fun cq21 => ?_)
    · rw [if_pos (bnot_f cq21)]
      refine ev_ldc2 (pc := 36) dX10_group_36 Cn_X10_189 ?_
      exact ev_lret (pc := 39) dX10_group_39 rfl rl
    · rw [if_neg (bnot_t cq21)]
      refine ev_iload_n (pc := 24) dX10_group_24 rfl ?_
      refine ev_i2l (pc := 25) dX10_group_25 ?_
      refine ev_lconst (pc := 26) (v := 0) dX10_group_26 (by decide) ?_
      refine ev_ldc2 (pc := 27) dX10_group_27 Cn_X10_264 ?_
      refine callS3I (pc := 30) dX10_group_30 Ml_X10_125 M_X10_in rfl rfl (c_X10_in (lo := 0) (hi := 3) rfl (by decide) (by decide)) ?_
      refine ev_if_neB (pc := 33) (tgt := 40) dX10_group_33 (by decide) (fun cq33 => ?_) (fun cq33 => ?_)
      · rw [if_neg (bnot_t cq33)]
        refine ev_aload_n (pc := 40) dX10_group_40 rfl ?_
        refine ev_iload_n (pc := 41) dX10_group_41 rfl ?_
        refine callV1V (pc := 42) dX10_group_42 Ml_X10_257 M_X10_reckon rfl rfl rfl rfl (c_X10_reckon hB1 hc) ?_
        refine ev_lconst (pc := 45) (v := 0) dX10_group_45 (by decide) ?_
        refine ev_lstore (pc := 46) (lv' := [(0, .ref 43), (1, .int _), (2, .int _), (3, .int _), (4, .long _)]) dX10_group_46 (Nat.le_of_ble_eq_true rfl) rfl ?_
        refine ev_iconst (pc := 48) (v := nI 0) dX10_group_48 (by decide) ?_
        refine ev_istore (pc := 49) (lv' := [(0, .ref 43), (1, .int _), (2, .int _), (3, .int _), (4, .long _), (6, .int _)]) dX10_group_49 (Nat.le_of_ble_eq_true rfl) rfl ?_
        exact L _ (hB1.eq e) 0 (Nat.zero_le _)
      · rw [if_pos (bnot_f cq33)]
        refine ev_ldc2 (pc := 36) dX10_group_36 Cn_X10_189 ?_
        exact ev_lret (pc := 39) dX10_group_39 rfl rl
end MO8
