abbrev mLaw : MD := (x, code, 4, ret, room_1)
theorem Ml_L_13 : Ml mLaw.1.cls 13 mX9_farmer := Or.inl (ts_in (List.mem_of_getElem? (i := 393) (by decide +kernel)) rfl)
theorem Ml_L_17 : Ml mLaw.1.cls 17 mX10_farmer := Or.inl (ts_in (List.mem_of_getElem? (i := 894) (by decide +kernel)) rfl)
theorem Ml_L_18 : Ml mLaw.1.cls 18 mX9_credit := Or.inl (ts_in (List.mem_of_getElem? (i := 412) (by decide +kernel)) rfl)
theorem Ml_L_21 : Ml mLaw.1.cls 21 mX10_credit := Or.inl (ts_in (List.mem_of_getElem? (i := 908) (by decide +kernel)) rfl)
theorem Ml_L_22 : Ml mLaw.1.cls 22 mX9_basket := Or.inl (ts_in (List.mem_of_getElem? (i := 425) (by decide +kernel)) rfl)
theorem Ml_L_26 : Ml mLaw.1.cls 26 mX10_basket := Or.inl (ts_in (List.mem_of_getElem? (i := 921) (by decide +kernel)) rfl)
theorem Ml_L_27 : Ml mLaw.1.cls 27 mX9_feed := Or.inl (ts_in (List.mem_of_getElem? (i := 433) (by decide +kernel)) rfl)
theorem Ml_L_31 : Ml mLaw.1.cls 31 mX10_feed := Or.inl (ts_in (List.mem_of_getElem? (i := 926) (by decide +kernel)) rfl)
theorem Ml_L_32 : Ml mLaw.1.cls 32 mX9_end := Or.inl (ts_in (List.mem_of_getElem? (i := 441) (by decide +kernel)) rfl)
theorem Ml_L_36 : Ml mLaw.1.cls 36 mX10_end := Or.inl (ts_in (List.mem_of_getElem? (i := 934) (by decide +kernel)) rfl)
theorem Ml_L_37 : Ml mLaw.1.cls 37 mX9_contract := Or.inl (ts_in (List.mem_of_getElem? (i := 445) (by decide +kernel)) rfl)
theorem Ml_L_41 : Ml mLaw.1.cls 41 mX10_contract := Or.inl (ts_in (List.mem_of_getElem? (i := 938) (by decide +kernel)) rfl)
theorem Ml_L_42 : Ml mLaw.1.cls 42 mX9_fault := Or.inl (ts_in (List.mem_of_getElem? (i := 554) (by decide +kernel)) rfl)
theorem Ml_L_45 : Ml mLaw.1.cls 45 mX10_fault := Or.inl (ts_in (List.mem_of_getElem? (i := 979) (by decide +kernel)) rfl)
theorem Ml_L_46 : Ml mLaw.1.cls 46 mX9_of := Or.inl (ts_in (List.mem_of_getElem? (i := 558) (by decide +kernel)) rfl)
theorem Ml_L_50 : Ml mLaw.1.cls 50 mX10_of := Or.inl (ts_in (List.mem_of_getElem? (i := 992) (by decide +kernel)) rfl)
theorem Ml_L_51 : Ml mLaw.1.cls 51 mX9_group := Or.inl (ts_in (List.mem_of_getElem? (i := 640) (by decide +kernel)) rfl)
theorem Ml_L_54 : Ml mLaw.1.cls 54 mX10_group := Or.inl (ts_in (List.mem_of_getElem? (i := 1018) (by decide +kernel)) rfl)
theorem Ml_L_55 : Ml mLaw.1.cls 55 mX9_bears := Or.inl (ts_in (List.mem_of_getElem? (i := 648) (by decide +kernel)) rfl)
theorem Ml_L_58 : Ml mLaw.1.cls 58 mX10_bears := Or.inl (ts_in (List.mem_of_getElem? (i := 983) (by decide +kernel)) rfl)
theorem Ml_L_59 : Ml mLaw.1.cls 59 mX9_drought := Or.inl (ts_in (List.mem_of_getElem? (i := 652) (by decide +kernel)) rfl)
theorem Ml_L_62 : Ml mLaw.1.cls 62 mX10_drought := Or.inl (ts_in (List.mem_of_getElem? (i := 987) (by decide +kernel)) rfl)
theorem Ml_L_63 : Ml mLaw.1.cls 63 mX9_visit := Or.inl (ts_in (List.mem_of_getElem? (i := 660) (by decide +kernel)) rfl)
theorem Ml_L_67 : Ml mLaw.1.cls 67 mX10_visit := Or.inl (ts_in (List.mem_of_getElem? (i := 1023) (by decide +kernel)) rfl)
theorem Ml_L_68 : Ml mLaw.1.cls 68 mX9_clear := Or.inl (ts_in (List.mem_of_getElem? (i := 668) (by decide +kernel)) rfl)
theorem Ml_L_71 : Ml mLaw.1.cls 71 mX10_clear := Or.inl (ts_in (List.mem_of_getElem? (i := 1028) (by decide +kernel)) rfl)
theorem Ml_L_72 : Ml mLaw.1.cls 72 mX9_most := Or.inl (ts_in (List.mem_of_getElem? (i := 672) (by decide +kernel)) rfl)
theorem Ml_L_75 : Ml mLaw.1.cls 75 mX10_most := Or.inl (ts_in (List.mem_of_getElem? (i := 1032) (by decide +kernel)) rfl)
theorem Ml_L_76 : Ml mLaw.1.cls 76 mX9_least := Or.inl (ts_in (List.mem_of_getElem? (i := 703) (by decide +kernel)) rfl)
theorem Ml_L_79 : Ml mLaw.1.cls 79 mX10_least := Or.inl (ts_in (List.mem_of_getElem? (i := 1060) (by decide +kernel)) rfl)
theorem Ml_L_80 : Ml mLaw.1.cls 80 mX9_led := Or.inl (ts_in (List.mem_of_getElem? (i := 712) (by decide +kernel)) rfl)
theorem Ml_L_83 : Ml mLaw.1.cls 83 mX10_led := Or.inl (ts_in (List.mem_of_getElem? (i := 1064) (by decide +kernel)) rfl)
theorem Ml_L_84 : Ml mLaw.1.cls 84 mX9_count := Or.inl (ts_in (List.mem_of_getElem? (i := 720) (by decide +kernel)) rfl)
theorem Ml_L_87 : Ml mLaw.1.cls 87 mX10_count := Or.inl (ts_in (List.mem_of_getElem? (i := 1068) (by decide +kernel)) rfl)
theorem Ml_L_88 : Ml mLaw.1.cls 88 mX9_status := Or.inl (ts_in (List.mem_of_getElem? (i := 724) (by decide +kernel)) rfl)
theorem Ml_L_91 : Ml mLaw.1.cls 91 mX10_status := Or.inl (ts_in (List.mem_of_getElem? (i := 1072) (by decide +kernel)) rfl)
section LAW
variable {xq : CX} {g : GG} {M M' : MD} {kc nc : Nat} {pc : Nat} {lv : List (Nat × Value)} {st : List Value} {hp : List va_E} {S S' : St}
theorem gvV0I {idx q : Nat} {x : Int32} (d : decode M.2.1 pc = .ok (.invokevirtual idx, 3)) (ml : Ml M.1.cls idx M') (mv : Mv M' 0) (hr : (Nat.ble (M'.2.2.2.2.frames + 1) M.2.2.2.2.frames && Nat.ble (8 + (M'.2.2.1 + 11) + M'.2.2.2.2.locals) M.2.2.2.2.locals) = true) (hw : Nat.ble (st.map fun v => v.category).sum 8 = true) (hkn : kc + 0 ≤ M.2.2.2.2.cells ∧ nc + 0 ≤ M.2.2.2.2.slots) {ci : Nat} {fs : List Value} (hq : hp[q]? = some (.inr (ci, fs))) (hci : (vwCl[ci]?).map (fun z => z.1) = some M'.1.cls) (ct : Ct g M' (.ref q :: []) hp (RI x S')) (kk : Gv xq g M kc nc (pc + 3) lv (.int x :: st) (hC S')) : Gv xq g M kc nc pc lv (.ref q :: st) hp := gv_callV (as := []) d ml mv hr rfl hw hkn hq hci ct (fun v hp' h => by obtain ⟨rfl, rfl⟩ := h; exact kk)
theorem gvV1I {idx q : Nat} {v1 : Value} {x : Int32} (d : decode M.2.1 pc = .ok (.invokevirtual idx, 3)) (ml : Ml M.1.cls idx M') (mv : Mv M' 1) (hr : (Nat.ble (M'.2.2.2.2.frames + 1) M.2.2.2.2.frames && Nat.ble (8 + (M'.2.2.1 + 11) + M'.2.2.2.2.locals) M.2.2.2.2.locals) = true) (hw : Nat.ble (st.map fun v => v.category).sum 8 = true) (hkn : kc + 0 ≤ M.2.2.2.2.cells ∧ nc + 0 ≤ M.2.2.2.2.slots) {ci : Nat} {fs : List Value} (hq : hp[q]? = some (.inr (ci, fs))) (hci : (vwCl[ci]?).map (fun z => z.1) = some M'.1.cls) (ct : Ct g M' (.ref q :: [v1]) hp (RI x S')) (kk : Gv xq g M kc nc (pc + 3) lv (.int x :: st) (hC S')) : Gv xq g M kc nc pc lv (v1 :: .ref q :: st) hp := gv_callV (as := [v1]) d ml mv hr rfl hw hkn hq hci ct (fun v hp' h => by obtain ⟨rfl, rfl⟩ := h; exact kk)
theorem gvV2I {idx q : Nat} {v1 v2 : Value} {x : Int32} (d : decode M.2.1 pc = .ok (.invokevirtual idx, 3)) (ml : Ml M.1.cls idx M') (mv : Mv M' 2) (hr : (Nat.ble (M'.2.2.2.2.frames + 1) M.2.2.2.2.frames && Nat.ble (8 + (M'.2.2.1 + 11) + M'.2.2.2.2.locals) M.2.2.2.2.locals) = true) (hw : Nat.ble (st.map fun v => v.category).sum 8 = true) (hkn : kc + 0 ≤ M.2.2.2.2.cells ∧ nc + 0 ≤ M.2.2.2.2.slots) {ci : Nat} {fs : List Value} (hq : hp[q]? = some (.inr (ci, fs))) (hci : (vwCl[ci]?).map (fun z => z.1) = some M'.1.cls) (ct : Ct g M' (.ref q :: [v1, v2]) hp (RI x S')) (kk : Gv xq g M kc nc (pc + 3) lv (.int x :: st) (hC S')) : Gv xq g M kc nc pc lv (v2 :: v1 :: .ref q :: st) hp := gv_callV (as := [v1, v2]) d ml mv hr rfl hw hkn hq hci ct (fun v hp' h => by obtain ⟨rfl, rfl⟩ := h; exact kk)
theorem gvV3I {idx q : Nat} {v1 v2 v3 : Value} {x : Int32} (d : decode M.2.1 pc = .ok (.invokevirtual idx, 3)) (ml : Ml M.1.cls idx M') (mv : Mv M' 3) (hr : (Nat.ble (M'.2.2.2.2.frames + 1) M.2.2.2.2.frames && Nat.ble (8 + (M'.2.2.1 + 11) + M'.2.2.2.2.locals) M.2.2.2.2.locals) = true) (hw : Nat.ble (st.map fun v => v.category).sum 8 = true) (hkn : kc + 0 ≤ M.2.2.2.2.cells ∧ nc + 0 ≤ M.2.2.2.2.slots) {ci : Nat} {fs : List Value} (hq : hp[q]? = some (.inr (ci, fs))) (hci : (vwCl[ci]?).map (fun z => z.1) = some M'.1.cls) (ct : Ct g M' (.ref q :: [v1, v2, v3]) hp (RI x S')) (kk : Gv xq g M kc nc (pc + 3) lv (.int x :: st) (hC S')) : Gv xq g M kc nc pc lv (v3 :: v2 :: v1 :: .ref q :: st) hp := gv_callV (as := [v1, v2, v3]) d ml mv hr rfl hw hkn hq hci ct (fun v hp' h => by obtain ⟨rfl, rfl⟩ := h; exact kk)
theorem gvV4I {idx q : Nat} {v1 v2 v3 v4 : Value} {x : Int32} (d : decode M.2.1 pc = .ok (.invokevirtual idx, 3)) (ml : Ml M.1.cls idx M') (mv : Mv M' 4) (hr : (Nat.ble (M'.2.2.2.2.frames + 1) M.2.2.2.2.frames && Nat.ble (8 + (M'.2.2.1 + 11) + M'.2.2.2.2.locals) M.2.2.2.2.locals) = true) (hw : Nat.ble (st.map fun v => v.category).sum 8 = true) (hkn : kc + 0 ≤ M.2.2.2.2.cells ∧ nc + 0 ≤ M.2.2.2.2.slots) {ci : Nat} {fs : List Value} (hq : hp[q]? = some (.inr (ci, fs))) (hci : (vwCl[ci]?).map (fun z => z.1) = some M'.1.cls) (ct : Ct g M' (.ref q :: [v1, v2, v3, v4]) hp (RI x S')) (kk : Gv xq g M kc nc (pc + 3) lv (.int x :: st) (hC S')) : Gv xq g M kc nc pc lv (v4 :: v3 :: v2 :: v1 :: .ref q :: st) hp := gv_callV (as := [v1, v2, v3, v4]) d ml mv hr rfl hw hkn hq hci ct (fun v hp' h => by obtain ⟨rfl, rfl⟩ := h; exact kk)
theorem gvV5I {idx q : Nat} {v1 v2 v3 v4 v5 : Value} {x : Int32} (d : decode M.2.1 pc = .ok (.invokevirtual idx, 3)) (ml : Ml M.1.cls idx M') (mv : Mv M' 5) (hr : (Nat.ble (M'.2.2.2.2.frames + 1) M.2.2.2.2.frames && Nat.ble (8 + (M'.2.2.1 + 11) + M'.2.2.2.2.locals) M.2.2.2.2.locals) = true) (hw : Nat.ble (st.map fun v => v.category).sum 8 = true) (hkn : kc + 0 ≤ M.2.2.2.2.cells ∧ nc + 0 ≤ M.2.2.2.2.slots) {ci : Nat} {fs : List Value} (hq : hp[q]? = some (.inr (ci, fs))) (hci : (vwCl[ci]?).map (fun z => z.1) = some M'.1.cls) (ct : Ct g M' (.ref q :: [v1, v2, v3, v4, v5]) hp (RI x S')) (kk : Gv xq g M kc nc (pc + 3) lv (.int x :: st) (hC S')) : Gv xq g M kc nc pc lv (v5 :: v4 :: v3 :: v2 :: v1 :: .ref q :: st) hp := gv_callV (as := [v1, v2, v3, v4, v5]) d ml mv hr rfl hw hkn hq hci ct (fun v hp' h => by obtain ⟨rfl, rfl⟩ := h; exact kk)
theorem gvV3L {idx q : Nat} {v1 v2 v3 : Value} {x : Int64} (d : decode M.2.1 pc = .ok (.invokevirtual idx, 3)) (ml : Ml M.1.cls idx M') (mv : Mv M' 3) (hr : (Nat.ble (M'.2.2.2.2.frames + 1) M.2.2.2.2.frames && Nat.ble (8 + (M'.2.2.1 + 11) + M'.2.2.2.2.locals) M.2.2.2.2.locals) = true) (hw : Nat.ble (st.map fun v => v.category).sum 8 = true) (hkn : kc + 0 ≤ M.2.2.2.2.cells ∧ nc + 0 ≤ M.2.2.2.2.slots) {ci : Nat} {fs : List Value} (hq : hp[q]? = some (.inr (ci, fs))) (hci : (vwCl[ci]?).map (fun z => z.1) = some M'.1.cls) (ct : Ct g M' (.ref q :: [v1, v2, v3]) hp (RJl x S')) (kk : Gv xq g M kc nc (pc + 3) lv (.long x :: st) (hC S')) : Gv xq g M kc nc pc lv (v3 :: v2 :: v1 :: .ref q :: st) hp := gv_callV (as := [v1, v2, v3]) d ml mv hr rfl hw hkn hq hci ct (fun v hp' h => by obtain ⟨rfl, rfl⟩ := h; exact kk)
theorem nI_addk (i k : Nat) : nI i + nI k = nI (i + k) := nI_add i k
theorem gv_arg {i k L : Nat} {kv : Int} {xs : Nat → Int32} (hX : Scr xq (g.2.2.1 400) L xs) (hkv : Int32.ofInt kv = nI k) (hi : i + k < L) (hL : L ≤ 3072) (h0 : lvGet lv 0 = some (.ref 400)) (h3 : lvGet lv 3 = some (.int (nI i))) (d0 : decode M.2.1 pc = .ok (.aload_n 0, 1)) (d1 : decode M.2.1 (pc + 1) = .ok (.iload_n 3, 1)) (d2 : decode M.2.1 (pc + 2) = .ok (.iconst kv, 1)) (d3 : decode M.2.1 (pc + 3) = .ok (.iadd, 1)) (d4 : decode M.2.1 (pc + 4) = .ok (.iaload, 1)) (kk : Gv xq g M kc nc (pc + 5) lv (.int (xs (i + k)) :: st) hp) : Gv xq g M kc nc pc lv st hp := by
  refine gv_aload_n d0 h0 ?_
  refine gv_iload_n d1 h3 ?_
  refine gv_iconst d2 hkv ?_
  refine gv_iadd d3 ?_
  rw [nI_addk]
  refine gv_sld hX (vp_in_nI hi (by omega)) d4 ?_
  rw [nI_clamp (by omega)]
  exact kk
theorem lc_farmer {i L : Nat} {xs : Nat → Int32} (hX : Scr xq (g.2.2.1 400) L xs) (hi : i + 6 ≤ L) (hL : L ≤ 3072) (hs : RelE S) (kk : ∀ U, RelE U → Gv xq g mLaw 77 18130 696 [(0, .ref 400), (1, .ref 0), (2, .ref 43), (3, .int (nI i))] [] (hC U)) : Gv xq g mLaw 77 18130 120 [(0, .ref 400), (1, .ref 0), (2, .ref 43), (3, .int (nI i))] [] (hC S) := by
  obtain ⟨b, nf, nc, nb, nd, nv, len, h⟩ := hs
  obtain ⟨v, T, U, c1, c2, h2⟩ := st_farmer (g := g) (x := xs (i + 1)) (y := xs (i + 2)) (z := xs (i + 3)) h
  refine gv_aload_n dL_law_120 rfl ?_
  refine gv_arg hX (k := 1) rfl (by omega) hL rfl rfl dL_law_121 dL_law_122 dL_law_123 dL_law_124 dL_law_125 ?_
  refine gv_arg hX (k := 2) rfl (by omega) hL rfl rfl dL_law_126 dL_law_127 dL_law_128 dL_law_129 dL_law_130 ?_
  refine gv_arg hX (k := 3) rfl (by omega) hL rfl rfl dL_law_131 dL_law_132 dL_law_133 dL_law_134 dL_law_135 ?_
  refine gvV3I dL_law_136 Ml_L_13 M_X9_farmer rfl rfl ⟨Nat.le_of_ble_eq_true rfl, Nat.le_of_ble_eq_true rfl⟩ rfl rfl c1 ?_
  refine gv_aload_n dL_law_139 rfl ?_
  refine gv_arg hX (k := 1) rfl (by omega) hL rfl rfl dL_law_140 dL_law_141 dL_law_142 dL_law_143 dL_law_144 ?_
  refine gv_arg hX (k := 2) rfl (by omega) hL rfl rfl dL_law_145 dL_law_146 dL_law_147 dL_law_148 dL_law_149 ?_
  refine gv_arg hX (k := 3) rfl (by omega) hL rfl rfl dL_law_150 dL_law_151 dL_law_152 dL_law_153 dL_law_154 ?_
  refine gvV3I dL_law_155 Ml_L_17 M_X10_farmer rfl rfl ⟨Nat.le_of_ble_eq_true rfl, Nat.le_of_ble_eq_true rfl⟩ rfl rfl c2 ?_
  exact gv_icmp_eq (tgt := 696) dL_law_158 (by decide) (fun _ => kk U h2) (fun z => absurd rfl z)
theorem lc_credit {i L : Nat} {xs : Nat → Int32} (hX : Scr xq (g.2.2.1 400) L xs) (hi : i + 6 ≤ L) (hL : L ≤ 3072) (hs : RelE S) (kk : ∀ U, RelE U → Gv xq g mLaw 77 18130 696 [(0, .ref 400), (1, .ref 0), (2, .ref 43), (3, .int (nI i))] [] (hC U)) : Gv xq g mLaw 77 18130 163 [(0, .ref 400), (1, .ref 0), (2, .ref 43), (3, .int (nI i))] [] (hC S) := by
  obtain ⟨b, nf, nc, nb, nd, nv, len, h⟩ := hs
  obtain ⟨v, T, U, c1, c2, h2⟩ := st_credit (g := g) (x := xs (i + 1)) (y := xs (i + 2)) (z := xs (i + 3)) h
  refine gv_aload_n dL_law_163 rfl ?_
  refine gv_arg hX (k := 1) rfl (by omega) hL rfl rfl dL_law_164 dL_law_165 dL_law_166 dL_law_167 dL_law_168 ?_
  refine gv_arg hX (k := 2) rfl (by omega) hL rfl rfl dL_law_169 dL_law_170 dL_law_171 dL_law_172 dL_law_173 ?_
  refine gv_arg hX (k := 3) rfl (by omega) hL rfl rfl dL_law_174 dL_law_175 dL_law_176 dL_law_177 dL_law_178 ?_
  refine gvV3I dL_law_179 Ml_L_18 M_X9_credit rfl rfl ⟨Nat.le_of_ble_eq_true rfl, Nat.le_of_ble_eq_true rfl⟩ rfl rfl c1 ?_
  refine gv_aload_n dL_law_182 rfl ?_
  refine gv_arg hX (k := 1) rfl (by omega) hL rfl rfl dL_law_183 dL_law_184 dL_law_185 dL_law_186 dL_law_187 ?_
  refine gv_arg hX (k := 2) rfl (by omega) hL rfl rfl dL_law_188 dL_law_189 dL_law_190 dL_law_191 dL_law_192 ?_
  refine gv_arg hX (k := 3) rfl (by omega) hL rfl rfl dL_law_193 dL_law_194 dL_law_195 dL_law_196 dL_law_197 ?_
  refine gvV3I dL_law_198 Ml_L_21 M_X10_credit rfl rfl ⟨Nat.le_of_ble_eq_true rfl, Nat.le_of_ble_eq_true rfl⟩ rfl rfl c2 ?_
  exact gv_icmp_eq (tgt := 696) dL_law_201 (by decide) (fun _ => kk U h2) (fun z => absurd rfl z)
theorem lc_basket {i L : Nat} {xs : Nat → Int32} (hX : Scr xq (g.2.2.1 400) L xs) (hi : i + 6 ≤ L) (hL : L ≤ 3072) (hs : RelE S) (kk : ∀ U, RelE U → Gv xq g mLaw 77 18130 696 [(0, .ref 400), (1, .ref 0), (2, .ref 43), (3, .int (nI i))] [] (hC U)) : Gv xq g mLaw 77 18130 206 [(0, .ref 400), (1, .ref 0), (2, .ref 43), (3, .int (nI i))] [] (hC S) := by
  obtain ⟨b, nf, nc, nb, nd, nv, len, h⟩ := hs
  obtain ⟨v, T, U, c1, c2, h2⟩ := st_basket (g := g) (x := xs (i + 1)) (y := xs (i + 2)) (z := xs (i + 3)) (w := xs (i + 4)) h
  refine gv_aload_n dL_law_206 rfl ?_
  refine gv_arg hX (k := 1) rfl (by omega) hL rfl rfl dL_law_207 dL_law_208 dL_law_209 dL_law_210 dL_law_211 ?_
  refine gv_arg hX (k := 2) rfl (by omega) hL rfl rfl dL_law_212 dL_law_213 dL_law_214 dL_law_215 dL_law_216 ?_
  refine gv_arg hX (k := 3) rfl (by omega) hL rfl rfl dL_law_217 dL_law_218 dL_law_219 dL_law_220 dL_law_221 ?_
  refine gv_arg hX (k := 4) rfl (by omega) hL rfl rfl dL_law_222 dL_law_223 dL_law_224 dL_law_225 dL_law_226 ?_
  refine gvV4I dL_law_227 Ml_L_22 M_X9_basket rfl rfl ⟨Nat.le_of_ble_eq_true rfl, Nat.le_of_ble_eq_true rfl⟩ rfl rfl c1 ?_
  refine gv_aload_n dL_law_230 rfl ?_
  refine gv_arg hX (k := 1) rfl (by omega) hL rfl rfl dL_law_231 dL_law_232 dL_law_233 dL_law_234 dL_law_235 ?_
  refine gv_arg hX (k := 2) rfl (by omega) hL rfl rfl dL_law_236 dL_law_237 dL_law_238 dL_law_239 dL_law_240 ?_
  refine gv_arg hX (k := 3) rfl (by omega) hL rfl rfl dL_law_241 dL_law_242 dL_law_243 dL_law_244 dL_law_245 ?_
  refine gv_arg hX (k := 4) rfl (by omega) hL rfl rfl dL_law_246 dL_law_247 dL_law_248 dL_law_249 dL_law_250 ?_
  refine gvV4I dL_law_251 Ml_L_26 M_X10_basket rfl rfl ⟨Nat.le_of_ble_eq_true rfl, Nat.le_of_ble_eq_true rfl⟩ rfl rfl c2 ?_
  exact gv_icmp_eq (tgt := 696) dL_law_254 (by decide) (fun _ => kk U h2) (fun z => absurd rfl z)
theorem lc_feed {i L : Nat} {xs : Nat → Int32} (hX : Scr xq (g.2.2.1 400) L xs) (hi : i + 6 ≤ L) (hL : L ≤ 3072) (hs : RelE S) (kk : ∀ U, RelE U → Gv xq g mLaw 77 18130 696 [(0, .ref 400), (1, .ref 0), (2, .ref 43), (3, .int (nI i))] [] (hC U)) : Gv xq g mLaw 77 18130 259 [(0, .ref 400), (1, .ref 0), (2, .ref 43), (3, .int (nI i))] [] (hC S) := by
  obtain ⟨b, nf, nc, nb, nd, nv, len, h⟩ := hs
  obtain ⟨v, T, U, c1, c2, h2⟩ := st_feed (g := g) (x := xs (i + 1)) (y := xs (i + 2)) (z := xs (i + 3)) (w := xs (i + 4)) (u := xs (i + 5)) h
  refine gv_aload_n dL_law_259 rfl ?_
  refine gv_arg hX (k := 1) rfl (by omega) hL rfl rfl dL_law_260 dL_law_261 dL_law_262 dL_law_263 dL_law_264 ?_
  refine gv_arg hX (k := 2) rfl (by omega) hL rfl rfl dL_law_265 dL_law_266 dL_law_267 dL_law_268 dL_law_269 ?_
  refine gv_arg hX (k := 3) rfl (by omega) hL rfl rfl dL_law_270 dL_law_271 dL_law_272 dL_law_273 dL_law_274 ?_
  refine gv_arg hX (k := 4) rfl (by omega) hL rfl rfl dL_law_275 dL_law_276 dL_law_277 dL_law_278 dL_law_279 ?_
  refine gv_arg hX (k := 5) rfl (by omega) hL rfl rfl dL_law_280 dL_law_281 dL_law_282 dL_law_283 dL_law_284 ?_
  refine gvV5I dL_law_285 Ml_L_27 M_X9_feed rfl rfl ⟨Nat.le_of_ble_eq_true rfl, Nat.le_of_ble_eq_true rfl⟩ rfl rfl c1 ?_
  refine gv_aload_n dL_law_288 rfl ?_
  refine gv_arg hX (k := 1) rfl (by omega) hL rfl rfl dL_law_289 dL_law_290 dL_law_291 dL_law_292 dL_law_293 ?_
  refine gv_arg hX (k := 2) rfl (by omega) hL rfl rfl dL_law_294 dL_law_295 dL_law_296 dL_law_297 dL_law_298 ?_
  refine gv_arg hX (k := 3) rfl (by omega) hL rfl rfl dL_law_299 dL_law_300 dL_law_301 dL_law_302 dL_law_303 ?_
  refine gv_arg hX (k := 4) rfl (by omega) hL rfl rfl dL_law_304 dL_law_305 dL_law_306 dL_law_307 dL_law_308 ?_
  refine gv_arg hX (k := 5) rfl (by omega) hL rfl rfl dL_law_309 dL_law_310 dL_law_311 dL_law_312 dL_law_313 ?_
  refine gvV5I dL_law_314 Ml_L_31 M_X10_feed rfl rfl ⟨Nat.le_of_ble_eq_true rfl, Nat.le_of_ble_eq_true rfl⟩ rfl rfl c2 ?_
  exact gv_icmp_eq (tgt := 696) dL_law_317 (by decide) (fun _ => kk U h2) (fun z => absurd rfl z)
theorem lc_end {i L : Nat} {xs : Nat → Int32} (hX : Scr xq (g.2.2.1 400) L xs) (hi : i + 6 ≤ L) (hL : L ≤ 3072) (hs : RelE S) (kk : ∀ U, RelE U → Gv xq g mLaw 77 18130 696 [(0, .ref 400), (1, .ref 0), (2, .ref 43), (3, .int (nI i))] [] (hC U)) : Gv xq g mLaw 77 18130 322 [(0, .ref 400), (1, .ref 0), (2, .ref 43), (3, .int (nI i))] [] (hC S) := by
  obtain ⟨b, nf, nc, nb, nd, nv, len, h⟩ := hs
  obtain ⟨v, T, U, c1, c2, h2⟩ := st_end (g := g) (x := xs (i + 1)) h
  refine gv_aload_n dL_law_322 rfl ?_
  refine gv_arg hX (k := 1) rfl (by omega) hL rfl rfl dL_law_323 dL_law_324 dL_law_325 dL_law_326 dL_law_327 ?_
  refine gvV1I dL_law_328 Ml_L_32 M_X9_end rfl rfl ⟨Nat.le_of_ble_eq_true rfl, Nat.le_of_ble_eq_true rfl⟩ rfl rfl c1 ?_
  refine gv_aload_n dL_law_331 rfl ?_
  refine gv_arg hX (k := 1) rfl (by omega) hL rfl rfl dL_law_332 dL_law_333 dL_law_334 dL_law_335 dL_law_336 ?_
  refine gvV1I dL_law_337 Ml_L_36 M_X10_end rfl rfl ⟨Nat.le_of_ble_eq_true rfl, Nat.le_of_ble_eq_true rfl⟩ rfl rfl c2 ?_
  exact gv_icmp_eq (tgt := 696) dL_law_340 (by decide) (fun _ => kk U h2) (fun z => absurd rfl z)
theorem lc_contract {i L : Nat} {xs : Nat → Int32} (hX : Scr xq (g.2.2.1 400) L xs) (hi : i + 6 ≤ L) (hL : L ≤ 3072) (hs : RelE S) (kk : ∀ U, RelE U → Gv xq g mLaw 77 18130 696 [(0, .ref 400), (1, .ref 0), (2, .ref 43), (3, .int (nI i))] [] (hC U)) : Gv xq g mLaw 77 18130 345 [(0, .ref 400), (1, .ref 0), (2, .ref 43), (3, .int (nI i))] [] (hC S) := by
  obtain ⟨b, nf, nc, nb, nd, nv, len, h⟩ := hs
  obtain ⟨v, T, U, c1, c2, h2⟩ := st_contract (g := g)  h
  refine gv_aload_n dL_law_345 rfl ?_
  refine gvV0I dL_law_346 Ml_L_37 M_X9_contract rfl rfl ⟨Nat.le_of_ble_eq_true rfl, Nat.le_of_ble_eq_true rfl⟩ rfl rfl c1 ?_
  refine gv_aload_n dL_law_349 rfl ?_
  refine gvV0I dL_law_350 Ml_L_41 M_X10_contract rfl rfl ⟨Nat.le_of_ble_eq_true rfl, Nat.le_of_ble_eq_true rfl⟩ rfl rfl c2 ?_
  exact gv_icmp_eq (tgt := 696) dL_law_353 (by decide) (fun _ => kk U h2) (fun z => absurd rfl z)
theorem lc_fault {i L : Nat} {xs : Nat → Int32} (hX : Scr xq (g.2.2.1 400) L xs) (hi : i + 6 ≤ L) (hL : L ≤ 3072) (hs : RelE S) (kk : ∀ U, RelE U → Gv xq g mLaw 77 18130 696 [(0, .ref 400), (1, .ref 0), (2, .ref 43), (3, .int (nI i))] [] (hC U)) : Gv xq g mLaw 77 18130 358 [(0, .ref 400), (1, .ref 0), (2, .ref 43), (3, .int (nI i))] [] (hC S) := by
  obtain ⟨b, nf, nc, nb, nd, nv, len, h⟩ := hs
  obtain ⟨v, T, U, c1, c2, h2⟩ := st_fault (g := g)  h
  refine gv_aload_n dL_law_358 rfl ?_
  refine gvV0I dL_law_359 Ml_L_42 M_X9_fault rfl rfl ⟨Nat.le_of_ble_eq_true rfl, Nat.le_of_ble_eq_true rfl⟩ rfl rfl c1 ?_
  refine gv_aload_n dL_law_362 rfl ?_
  refine gvV0I dL_law_363 Ml_L_45 M_X10_fault rfl rfl ⟨Nat.le_of_ble_eq_true rfl, Nat.le_of_ble_eq_true rfl⟩ rfl rfl c2 ?_
  exact gv_icmp_eq (tgt := 696) dL_law_366 (by decide) (fun _ => kk U h2) (fun z => absurd rfl z)
theorem lc_of {i L : Nat} {xs : Nat → Int32} (hX : Scr xq (g.2.2.1 400) L xs) (hi : i + 6 ≤ L) (hL : L ≤ 3072) (hs : RelE S) (kk : ∀ U, RelE U → Gv xq g mLaw 77 18130 696 [(0, .ref 400), (1, .ref 0), (2, .ref 43), (3, .int (nI i))] [] (hC U)) : Gv xq g mLaw 77 18130 371 [(0, .ref 400), (1, .ref 0), (2, .ref 43), (3, .int (nI i))] [] (hC S) := by
  obtain ⟨b, nf, nc, nb, nd, nv, len, h⟩ := hs
  obtain ⟨v, T, U, c1, c2, h2⟩ := st_of (g := g) (x := xs (i + 1)) (y := xs (i + 2)) (z := xs (i + 3)) h
  refine gv_aload_n dL_law_371 rfl ?_
  refine gv_arg hX (k := 1) rfl (by omega) hL rfl rfl dL_law_372 dL_law_373 dL_law_374 dL_law_375 dL_law_376 ?_
  refine gv_arg hX (k := 2) rfl (by omega) hL rfl rfl dL_law_377 dL_law_378 dL_law_379 dL_law_380 dL_law_381 ?_
  refine gv_arg hX (k := 3) rfl (by omega) hL rfl rfl dL_law_382 dL_law_383 dL_law_384 dL_law_385 dL_law_386 ?_
  refine gvV3L dL_law_387 Ml_L_46 M_X9_of rfl rfl ⟨Nat.le_of_ble_eq_true rfl, Nat.le_of_ble_eq_true rfl⟩ rfl rfl c1 ?_
  refine gv_aload_n dL_law_390 rfl ?_
  refine gv_arg hX (k := 1) rfl (by omega) hL rfl rfl dL_law_391 dL_law_392 dL_law_393 dL_law_394 dL_law_395 ?_
  refine gv_arg hX (k := 2) rfl (by omega) hL rfl rfl dL_law_396 dL_law_397 dL_law_398 dL_law_399 dL_law_400 ?_
  refine gv_arg hX (k := 3) rfl (by omega) hL rfl rfl dL_law_401 dL_law_402 dL_law_403 dL_law_404 dL_law_405 ?_
  refine gvV3L dL_law_406 Ml_L_50 M_X10_of rfl rfl ⟨Nat.le_of_ble_eq_true rfl, Nat.le_of_ble_eq_true rfl⟩ rfl rfl c2 ?_
  exact gv_lcmp_eq (tgt := 696) dL_law_409 dL_law_410 (by decide) (fun _ => kk U h2) (fun z => absurd rfl z)
theorem lc_group {i L : Nat} {xs : Nat → Int32} (hX : Scr xq (g.2.2.1 400) L xs) (hi : i + 6 ≤ L) (hL : L ≤ 3072) (hs : RelE S) (kk : ∀ U, RelE U → Gv xq g mLaw 77 18130 696 [(0, .ref 400), (1, .ref 0), (2, .ref 43), (3, .int (nI i))] [] (hC U)) : Gv xq g mLaw 77 18130 415 [(0, .ref 400), (1, .ref 0), (2, .ref 43), (3, .int (nI i))] [] (hC S) := by
  obtain ⟨b, nf, nc, nb, nd, nv, len, h⟩ := hs
  obtain ⟨v, T, U, c1, c2, h2⟩ := st_group (g := g) (x := xs (i + 1)) (y := xs (i + 2)) (z := xs (i + 3)) h
  refine gv_aload_n dL_law_415 rfl ?_
  refine gv_arg hX (k := 1) rfl (by omega) hL rfl rfl dL_law_416 dL_law_417 dL_law_418 dL_law_419 dL_law_420 ?_
  refine gv_arg hX (k := 2) rfl (by omega) hL rfl rfl dL_law_421 dL_law_422 dL_law_423 dL_law_424 dL_law_425 ?_
  refine gv_arg hX (k := 3) rfl (by omega) hL rfl rfl dL_law_426 dL_law_427 dL_law_428 dL_law_429 dL_law_430 ?_
  refine gvV3L dL_law_431 Ml_L_51 M_X9_group rfl rfl ⟨Nat.le_of_ble_eq_true rfl, Nat.le_of_ble_eq_true rfl⟩ rfl rfl c1 ?_
  refine gv_aload_n dL_law_434 rfl ?_
  refine gv_arg hX (k := 1) rfl (by omega) hL rfl rfl dL_law_435 dL_law_436 dL_law_437 dL_law_438 dL_law_439 ?_
  refine gv_arg hX (k := 2) rfl (by omega) hL rfl rfl dL_law_440 dL_law_441 dL_law_442 dL_law_443 dL_law_444 ?_
  refine gv_arg hX (k := 3) rfl (by omega) hL rfl rfl dL_law_445 dL_law_446 dL_law_447 dL_law_448 dL_law_449 ?_
  refine gvV3L dL_law_450 Ml_L_54 M_X10_group rfl rfl ⟨Nat.le_of_ble_eq_true rfl, Nat.le_of_ble_eq_true rfl⟩ rfl rfl c2 ?_
  exact gv_lcmp_eq (tgt := 696) dL_law_453 dL_law_454 (by decide) (fun _ => kk U h2) (fun z => absurd rfl z)
theorem lc_bears {i L : Nat} {xs : Nat → Int32} (hX : Scr xq (g.2.2.1 400) L xs) (hi : i + 6 ≤ L) (hL : L ≤ 3072) (hs : RelE S) (kk : ∀ U, RelE U → Gv xq g mLaw 77 18130 696 [(0, .ref 400), (1, .ref 0), (2, .ref 43), (3, .int (nI i))] [] (hC U)) : Gv xq g mLaw 77 18130 459 [(0, .ref 400), (1, .ref 0), (2, .ref 43), (3, .int (nI i))] [] (hC S) := by
  obtain ⟨b, nf, nc, nb, nd, nv, len, h⟩ := hs
  obtain ⟨v, T, U, c1, c2, h2⟩ := st_bears (g := g) (x := xs (i + 1)) h
  refine gv_aload_n dL_law_459 rfl ?_
  refine gv_arg hX (k := 1) rfl (by omega) hL rfl rfl dL_law_460 dL_law_461 dL_law_462 dL_law_463 dL_law_464 ?_
  refine gvV1I dL_law_465 Ml_L_55 M_X9_bears rfl rfl ⟨Nat.le_of_ble_eq_true rfl, Nat.le_of_ble_eq_true rfl⟩ rfl rfl c1 ?_
  refine gv_aload_n dL_law_468 rfl ?_
  refine gv_arg hX (k := 1) rfl (by omega) hL rfl rfl dL_law_469 dL_law_470 dL_law_471 dL_law_472 dL_law_473 ?_
  refine gvV1I dL_law_474 Ml_L_58 M_X10_bears rfl rfl ⟨Nat.le_of_ble_eq_true rfl, Nat.le_of_ble_eq_true rfl⟩ rfl rfl c2 ?_
  exact gv_icmp_eq (tgt := 696) dL_law_477 (by decide) (fun _ => kk U h2) (fun z => absurd rfl z)
theorem lc_drought {i L : Nat} {xs : Nat → Int32} (hX : Scr xq (g.2.2.1 400) L xs) (hi : i + 6 ≤ L) (hL : L ≤ 3072) (hs : RelE S) (kk : ∀ U, RelE U → Gv xq g mLaw 77 18130 696 [(0, .ref 400), (1, .ref 0), (2, .ref 43), (3, .int (nI i))] [] (hC U)) : Gv xq g mLaw 77 18130 482 [(0, .ref 400), (1, .ref 0), (2, .ref 43), (3, .int (nI i))] [] (hC S) := by
  obtain ⟨b, nf, nc, nb, nd, nv, len, h⟩ := hs
  obtain ⟨v, T, U, c1, c2, h2⟩ := st_drought (g := g) (x := xs (i + 1)) (y := xs (i + 2)) (z := xs (i + 3)) h
  refine gv_aload_n dL_law_482 rfl ?_
  refine gv_arg hX (k := 1) rfl (by omega) hL rfl rfl dL_law_483 dL_law_484 dL_law_485 dL_law_486 dL_law_487 ?_
  refine gv_arg hX (k := 2) rfl (by omega) hL rfl rfl dL_law_488 dL_law_489 dL_law_490 dL_law_491 dL_law_492 ?_
  refine gv_arg hX (k := 3) rfl (by omega) hL rfl rfl dL_law_493 dL_law_494 dL_law_495 dL_law_496 dL_law_497 ?_
  refine gvV3I dL_law_498 Ml_L_59 M_X9_drought rfl rfl ⟨Nat.le_of_ble_eq_true rfl, Nat.le_of_ble_eq_true rfl⟩ rfl rfl c1 ?_
  refine gv_aload_n dL_law_501 rfl ?_
  refine gv_arg hX (k := 1) rfl (by omega) hL rfl rfl dL_law_502 dL_law_503 dL_law_504 dL_law_505 dL_law_506 ?_
  refine gv_arg hX (k := 2) rfl (by omega) hL rfl rfl dL_law_507 dL_law_508 dL_law_509 dL_law_510 dL_law_511 ?_
  refine gv_arg hX (k := 3) rfl (by omega) hL rfl rfl dL_law_512 dL_law_513 dL_law_514 dL_law_515 dL_law_516 ?_
  refine gvV3I dL_law_517 Ml_L_62 M_X10_drought rfl rfl ⟨Nat.le_of_ble_eq_true rfl, Nat.le_of_ble_eq_true rfl⟩ rfl rfl c2 ?_
  exact gv_icmp_eq (tgt := 696) dL_law_520 (by decide) (fun _ => kk U h2) (fun z => absurd rfl z)
theorem lc_visit {i L : Nat} {xs : Nat → Int32} (hX : Scr xq (g.2.2.1 400) L xs) (hi : i + 6 ≤ L) (hL : L ≤ 3072) (hs : RelE S) (kk : ∀ U, RelE U → Gv xq g mLaw 77 18130 696 [(0, .ref 400), (1, .ref 0), (2, .ref 43), (3, .int (nI i))] [] (hC U)) : Gv xq g mLaw 77 18130 525 [(0, .ref 400), (1, .ref 0), (2, .ref 43), (3, .int (nI i))] [] (hC S) := by
  obtain ⟨b, nf, nc, nb, nd, nv, len, h⟩ := hs
  obtain ⟨v, T, U, c1, c2, h2⟩ := st_visit (g := g) (x := xs (i + 1)) (y := xs (i + 2)) h
  refine gv_aload_n dL_law_525 rfl ?_
  refine gv_arg hX (k := 1) rfl (by omega) hL rfl rfl dL_law_526 dL_law_527 dL_law_528 dL_law_529 dL_law_530 ?_
  refine gv_arg hX (k := 2) rfl (by omega) hL rfl rfl dL_law_531 dL_law_532 dL_law_533 dL_law_534 dL_law_535 ?_
  refine gvV2I dL_law_536 Ml_L_63 M_X9_visit rfl rfl ⟨Nat.le_of_ble_eq_true rfl, Nat.le_of_ble_eq_true rfl⟩ rfl rfl c1 ?_
  refine gv_aload_n dL_law_539 rfl ?_
  refine gv_arg hX (k := 1) rfl (by omega) hL rfl rfl dL_law_540 dL_law_541 dL_law_542 dL_law_543 dL_law_544 ?_
  refine gv_arg hX (k := 2) rfl (by omega) hL rfl rfl dL_law_545 dL_law_546 dL_law_547 dL_law_548 dL_law_549 ?_
  refine gvV2I dL_law_550 Ml_L_67 M_X10_visit rfl rfl ⟨Nat.le_of_ble_eq_true rfl, Nat.le_of_ble_eq_true rfl⟩ rfl rfl c2 ?_
  exact gv_icmp_eq (tgt := 696) dL_law_553 (by decide) (fun _ => kk U h2) (fun z => absurd rfl z)
theorem lc_clear {i L : Nat} {xs : Nat → Int32} (hX : Scr xq (g.2.2.1 400) L xs) (hi : i + 6 ≤ L) (hL : L ≤ 3072) (hs : RelE S) (kk : ∀ U, RelE U → Gv xq g mLaw 77 18130 696 [(0, .ref 400), (1, .ref 0), (2, .ref 43), (3, .int (nI i))] [] (hC U)) : Gv xq g mLaw 77 18130 558 [(0, .ref 400), (1, .ref 0), (2, .ref 43), (3, .int (nI i))] [] (hC S) := by
  obtain ⟨b, nf, nc, nb, nd, nv, len, h⟩ := hs
  obtain ⟨v, T, U, c1, c2, h2⟩ := st_clear (g := g)  h
  refine gv_aload_n dL_law_558 rfl ?_
  refine gvV0I dL_law_559 Ml_L_68 M_X9_clear rfl rfl ⟨Nat.le_of_ble_eq_true rfl, Nat.le_of_ble_eq_true rfl⟩ rfl rfl c1 ?_
  refine gv_aload_n dL_law_562 rfl ?_
  refine gvV0I dL_law_563 Ml_L_71 M_X10_clear rfl rfl ⟨Nat.le_of_ble_eq_true rfl, Nat.le_of_ble_eq_true rfl⟩ rfl rfl c2 ?_
  exact gv_icmp_eq (tgt := 696) dL_law_566 (by decide) (fun _ => kk U h2) (fun z => absurd rfl z)
theorem lc_most {i L : Nat} {xs : Nat → Int32} (hX : Scr xq (g.2.2.1 400) L xs) (hi : i + 6 ≤ L) (hL : L ≤ 3072) (hs : RelE S) (kk : ∀ U, RelE U → Gv xq g mLaw 77 18130 696 [(0, .ref 400), (1, .ref 0), (2, .ref 43), (3, .int (nI i))] [] (hC U)) : Gv xq g mLaw 77 18130 571 [(0, .ref 400), (1, .ref 0), (2, .ref 43), (3, .int (nI i))] [] (hC S) := by
  obtain ⟨b, nf, nc, nb, nd, nv, len, h⟩ := hs
  obtain ⟨v, T, U, c1, c2, h2⟩ := st_most (g := g) (x := xs (i + 1)) h
  refine gv_aload_n dL_law_571 rfl ?_
  refine gv_arg hX (k := 1) rfl (by omega) hL rfl rfl dL_law_572 dL_law_573 dL_law_574 dL_law_575 dL_law_576 ?_
  refine gvV1I dL_law_577 Ml_L_72 M_X9_most rfl rfl ⟨Nat.le_of_ble_eq_true rfl, Nat.le_of_ble_eq_true rfl⟩ rfl rfl c1 ?_
  refine gv_aload_n dL_law_580 rfl ?_
  refine gv_arg hX (k := 1) rfl (by omega) hL rfl rfl dL_law_581 dL_law_582 dL_law_583 dL_law_584 dL_law_585 ?_
  refine gvV1I dL_law_586 Ml_L_75 M_X10_most rfl rfl ⟨Nat.le_of_ble_eq_true rfl, Nat.le_of_ble_eq_true rfl⟩ rfl rfl c2 ?_
  exact gv_icmp_eq (tgt := 696) dL_law_589 (by decide) (fun _ => kk U h2) (fun z => absurd rfl z)
theorem lc_least {i L : Nat} {xs : Nat → Int32} (hX : Scr xq (g.2.2.1 400) L xs) (hi : i + 6 ≤ L) (hL : L ≤ 3072) (hs : RelE S) (kk : ∀ U, RelE U → Gv xq g mLaw 77 18130 696 [(0, .ref 400), (1, .ref 0), (2, .ref 43), (3, .int (nI i))] [] (hC U)) : Gv xq g mLaw 77 18130 594 [(0, .ref 400), (1, .ref 0), (2, .ref 43), (3, .int (nI i))] [] (hC S) := by
  obtain ⟨b, nf, nc, nb, nd, nv, len, h⟩ := hs
  obtain ⟨v, T, U, c1, c2, h2⟩ := st_least (g := g) (x := xs (i + 1)) (y := xs (i + 2)) h
  refine gv_aload_n dL_law_594 rfl ?_
  refine gv_arg hX (k := 1) rfl (by omega) hL rfl rfl dL_law_595 dL_law_596 dL_law_597 dL_law_598 dL_law_599 ?_
  refine gv_arg hX (k := 2) rfl (by omega) hL rfl rfl dL_law_600 dL_law_601 dL_law_602 dL_law_603 dL_law_604 ?_
  refine gvV2I dL_law_605 Ml_L_76 M_X9_least rfl rfl ⟨Nat.le_of_ble_eq_true rfl, Nat.le_of_ble_eq_true rfl⟩ rfl rfl c1 ?_
  refine gv_aload_n dL_law_608 rfl ?_
  refine gv_arg hX (k := 1) rfl (by omega) hL rfl rfl dL_law_609 dL_law_610 dL_law_611 dL_law_612 dL_law_613 ?_
  refine gv_arg hX (k := 2) rfl (by omega) hL rfl rfl dL_law_614 dL_law_615 dL_law_616 dL_law_617 dL_law_618 ?_
  refine gvV2I dL_law_619 Ml_L_79 M_X10_least rfl rfl ⟨Nat.le_of_ble_eq_true rfl, Nat.le_of_ble_eq_true rfl⟩ rfl rfl c2 ?_
  exact gv_icmp_eq (tgt := 696) dL_law_622 (by decide) (fun _ => kk U h2) (fun z => absurd rfl z)
theorem lc_led {i L : Nat} {xs : Nat → Int32} (hX : Scr xq (g.2.2.1 400) L xs) (hi : i + 6 ≤ L) (hL : L ≤ 3072) (hs : RelE S) (kk : ∀ U, RelE U → Gv xq g mLaw 77 18130 696 [(0, .ref 400), (1, .ref 0), (2, .ref 43), (3, .int (nI i))] [] (hC U)) : Gv xq g mLaw 77 18130 627 [(0, .ref 400), (1, .ref 0), (2, .ref 43), (3, .int (nI i))] [] (hC S) := by
  obtain ⟨b, nf, nc, nb, nd, nv, len, h⟩ := hs
  obtain ⟨v, T, U, c1, c2, h2⟩ := st_led (g := g) (x := xs (i + 1)) (y := xs (i + 2)) h
  refine gv_aload_n dL_law_627 rfl ?_
  refine gv_arg hX (k := 1) rfl (by omega) hL rfl rfl dL_law_628 dL_law_629 dL_law_630 dL_law_631 dL_law_632 ?_
  refine gv_arg hX (k := 2) rfl (by omega) hL rfl rfl dL_law_633 dL_law_634 dL_law_635 dL_law_636 dL_law_637 ?_
  refine gvV2I dL_law_638 Ml_L_80 M_X9_led rfl rfl ⟨Nat.le_of_ble_eq_true rfl, Nat.le_of_ble_eq_true rfl⟩ rfl rfl c1 ?_
  refine gv_aload_n dL_law_641 rfl ?_
  refine gv_arg hX (k := 1) rfl (by omega) hL rfl rfl dL_law_642 dL_law_643 dL_law_644 dL_law_645 dL_law_646 ?_
  refine gv_arg hX (k := 2) rfl (by omega) hL rfl rfl dL_law_647 dL_law_648 dL_law_649 dL_law_650 dL_law_651 ?_
  refine gvV2I dL_law_652 Ml_L_83 M_X10_led rfl rfl ⟨Nat.le_of_ble_eq_true rfl, Nat.le_of_ble_eq_true rfl⟩ rfl rfl c2 ?_
  exact gv_icmp_eq (tgt := 696) dL_law_655 (by decide) (fun _ => kk U h2) (fun z => absurd rfl z)
theorem lc_count {i L : Nat} {xs : Nat → Int32} (hX : Scr xq (g.2.2.1 400) L xs) (hi : i + 6 ≤ L) (hL : L ≤ 3072) (hs : RelE S) (kk : ∀ U, RelE U → Gv xq g mLaw 77 18130 696 [(0, .ref 400), (1, .ref 0), (2, .ref 43), (3, .int (nI i))] [] (hC U)) : Gv xq g mLaw 77 18130 660 [(0, .ref 400), (1, .ref 0), (2, .ref 43), (3, .int (nI i))] [] (hC S) := by
  obtain ⟨b, nf, nc, nb, nd, nv, len, h⟩ := hs
  obtain ⟨v, T, U, c1, c2, h2⟩ := st_count (g := g) (x := xs (i + 1)) h
  refine gv_aload_n dL_law_660 rfl ?_
  refine gv_arg hX (k := 1) rfl (by omega) hL rfl rfl dL_law_661 dL_law_662 dL_law_663 dL_law_664 dL_law_665 ?_
  refine gvV1I dL_law_666 Ml_L_84 M_X9_count rfl rfl ⟨Nat.le_of_ble_eq_true rfl, Nat.le_of_ble_eq_true rfl⟩ rfl rfl c1 ?_
  refine gv_aload_n dL_law_669 rfl ?_
  refine gv_arg hX (k := 1) rfl (by omega) hL rfl rfl dL_law_670 dL_law_671 dL_law_672 dL_law_673 dL_law_674 ?_
  refine gvV1I dL_law_675 Ml_L_87 M_X10_count rfl rfl ⟨Nat.le_of_ble_eq_true rfl, Nat.le_of_ble_eq_true rfl⟩ rfl rfl c2 ?_
  exact gv_icmp_eq (tgt := 696) dL_law_678 (by decide) (fun _ => kk U h2) (fun z => absurd rfl z)
theorem lc_status {i L : Nat} {xs : Nat → Int32} (hX : Scr xq (g.2.2.1 400) L xs) (hi : i + 6 ≤ L) (hL : L ≤ 3072) (hs : RelE S) (kk : ∀ U, RelE U → Gv xq g mLaw 77 18130 696 [(0, .ref 400), (1, .ref 0), (2, .ref 43), (3, .int (nI i))] [] (hC U)) : Gv xq g mLaw 77 18130 683 [(0, .ref 400), (1, .ref 0), (2, .ref 43), (3, .int (nI i))] [] (hC S) := by
  obtain ⟨b, nf, nc, nb, nd, nv, len, h⟩ := hs
  obtain ⟨v, T, U, c1, c2, h2⟩ := st_status (g := g)  h
  refine gv_aload_n dL_law_683 rfl ?_
  refine gvV0I dL_law_684 Ml_L_88 M_X9_status rfl rfl ⟨Nat.le_of_ble_eq_true rfl, Nat.le_of_ble_eq_true rfl⟩ rfl rfl c1 ?_
  refine gv_aload_n dL_law_687 rfl ?_
  refine gvV0I dL_law_688 Ml_L_91 M_X10_status rfl rfl ⟨Nat.le_of_ble_eq_true rfl, Nat.le_of_ble_eq_true rfl⟩ rfl rfl c2 ?_
  exact gv_icmp_eq (tgt := 696) dL_law_691 (by decide) (fun _ => kk U h2) (fun z => absurd rfl z)
theorem law_sw {i L : Nat} {xs : Nat → Int32} (hX : Scr xq (g.2.2.1 400) L xs) (hi : i + 6 ≤ L) (hL : L ≤ 3072) (hs : RelE S) (kk : ∀ U, RelE U → Gv xq g mLaw 77 18130 696 [(0, .ref 400), (1, .ref 0), (2, .ref 43), (3, .int (nI i))] [] (hC U)) (v : Int32) : Gv xq g mLaw 77 18130 33 [(0, .ref 400), (1, .ref 0), (2, .ref 43), (3, .int (nI i))] [.int v] (hC S) := by
  rcases (show v.toInt = 0 ∨ v.toInt = 1 ∨ v.toInt = 2 ∨ v.toInt = 3 ∨ v.toInt = 4 ∨ v.toInt = 5 ∨ v.toInt = 6 ∨ v.toInt = 7 ∨ v.toInt = 8 ∨ v.toInt = 9 ∨ v.toInt = 10 ∨ v.toInt = 11 ∨ v.toInt = 12 ∨ v.toInt = 13 ∨ v.toInt = 14 ∨ v.toInt = 15 ∨ v.toInt = 16 ∨ v.toInt = 17 ∨ (v.toInt < 0 ∨ 17 < v.toInt) by omega) with hw | hw | hw | hw | hw | hw | hw | hw | hw | hw | hw | hw | hw | hw | hw | hw | hw | hw | hw
  · exact gv_tabIn (tgt := 120) (off := 87) dL_law_33 (by omega) (by omega) (tb_in hw (by decide)) (by decide) (lc_farmer hX hi hL hs kk)
  · exact gv_tabIn (tgt := 163) (off := 130) dL_law_33 (by omega) (by omega) (tb_in hw (by decide)) (by decide) (lc_credit hX hi hL hs kk)
  · exact gv_tabIn (tgt := 206) (off := 173) dL_law_33 (by omega) (by omega) (tb_in hw (by decide)) (by decide) (lc_basket hX hi hL hs kk)
  · exact gv_tabIn (tgt := 259) (off := 226) dL_law_33 (by omega) (by omega) (tb_in hw (by decide)) (by decide) (lc_feed hX hi hL hs kk)
  · exact gv_tabIn (tgt := 322) (off := 289) dL_law_33 (by omega) (by omega) (tb_in hw (by decide)) (by decide) (lc_end hX hi hL hs kk)
  · exact gv_tabIn (tgt := 345) (off := 312) dL_law_33 (by omega) (by omega) (tb_in hw (by decide)) (by decide) (lc_contract hX hi hL hs kk)
  · exact gv_tabIn (tgt := 358) (off := 325) dL_law_33 (by omega) (by omega) (tb_in hw (by decide)) (by decide) (lc_fault hX hi hL hs kk)
  · exact gv_tabIn (tgt := 371) (off := 338) dL_law_33 (by omega) (by omega) (tb_in hw (by decide)) (by decide) (lc_of hX hi hL hs kk)
  · exact gv_tabIn (tgt := 415) (off := 382) dL_law_33 (by omega) (by omega) (tb_in hw (by decide)) (by decide) (lc_group hX hi hL hs kk)
  · exact gv_tabIn (tgt := 459) (off := 426) dL_law_33 (by omega) (by omega) (tb_in hw (by decide)) (by decide) (lc_bears hX hi hL hs kk)
  · exact gv_tabIn (tgt := 482) (off := 449) dL_law_33 (by omega) (by omega) (tb_in hw (by decide)) (by decide) (lc_drought hX hi hL hs kk)
  · exact gv_tabIn (tgt := 525) (off := 492) dL_law_33 (by omega) (by omega) (tb_in hw (by decide)) (by decide) (lc_visit hX hi hL hs kk)
  · exact gv_tabIn (tgt := 558) (off := 525) dL_law_33 (by omega) (by omega) (tb_in hw (by decide)) (by decide) (lc_clear hX hi hL hs kk)
  · exact gv_tabIn (tgt := 571) (off := 538) dL_law_33 (by omega) (by omega) (tb_in hw (by decide)) (by decide) (lc_most hX hi hL hs kk)
  · exact gv_tabIn (tgt := 594) (off := 561) dL_law_33 (by omega) (by omega) (tb_in hw (by decide)) (by decide) (lc_least hX hi hL hs kk)
  · exact gv_tabIn (tgt := 627) (off := 594) dL_law_33 (by omega) (by omega) (tb_in hw (by decide)) (by decide) (lc_led hX hi hL hs kk)
  · exact gv_tabIn (tgt := 660) (off := 627) dL_law_33 (by omega) (by omega) (tb_in hw (by decide)) (by decide) (lc_count hX hi hL hs kk)
  · exact gv_tabIn (tgt := 683) (off := 650) dL_law_33 (by omega) (by omega) (tb_in hw (by decide)) (by decide) (lc_status hX hi hL hs kk)
  · exact gv_tabOut (tgt := 696) dL_law_33 hw (by decide) (kk S hs)
theorem toI_sub6 {L : Nat} (hL : L ≤ 3072) : (Int32.ofNat L - 6).toInt = (L : Int) - 6 := pk_sub_toInt (a := L) (b := 6) (by omega) (by decide)
theorem law_loop {L : Nat} {xs : Nat → Int32} (hX : Scr xq (g.2.2.1 400) L xs) (hL : L ≤ 3072) (fin : ∀ (U : St) (i : Nat), Gv xq g mLaw 77 18130 702 [(0, .ref 400), (1, .ref 0), (2, .ref 43), (3, .int (nI i))] [] (hC U)) : ∀ (n i : Nat) (S : St), L + 1 ≤ i + n → i ≤ 4000 → RelE S → Gv xq g mLaw 77 18130 18 [(0, .ref 400), (1, .ref 0), (2, .ref 43), (3, .int (nI i))] [] (hC S) := by
  intro n
  induction n with
  | zero =>
    intro i S hn h4 hs
    refine gv_iload_n dL_law_18 rfl ?_
    refine gv_aload_n dL_law_19 rfl ?_
    refine gv_slen hX dL_law_20 ?_
    refine gv_bipush dL_law_21 (v := 6) (by decide) ?_
    refine gv_isub dL_law_23 ?_
    refine gv_icmp_gt (tgt := 702) dL_law_24 (by decide) (fun _ => fin S i) (fun z => ?_)
    have e := toI_sub6 hL
    rw [Int32.lt_iff_toInt_lt, e, nI_toInt (by omega)] at z
    omega
  | succ n ih =>
    intro i S hn h4 hs
    refine gv_iload_n dL_law_18 rfl ?_
    refine gv_aload_n dL_law_19 rfl ?_
    refine gv_slen hX dL_law_20 ?_
    refine gv_bipush dL_law_21 (v := 6) (by decide) ?_
    refine gv_isub dL_law_23 ?_
    refine gv_icmp_gt (tgt := 702) dL_law_24 (by decide) (fun _ => fin S i) (fun z => ?_)
    have e := toI_sub6 hL
    rw [Int32.lt_iff_toInt_lt, e, nI_toInt (by omega)] at z
    refine gv_aload_n dL_law_27 rfl ?_
    refine gv_iload_n dL_law_28 rfl ?_
    refine gv_sld hX (vp_in_nI (by omega) (by omega)) dL_law_29 ?_
    refine gv_bipush dL_law_30 (v := 31) (by decide) ?_
    refine gv_iand dL_law_32 ?_
    refine law_sw hX (by omega) hL hs (fun U hU => ?_) _
    refine gv_iinc (lv' := [(0, .ref 400), (1, .ref 0), (2, .ref 43), (3, .int (nI (i + 6)))]) dL_law_696 rfl (by decide) ?_ ?_
    · rw [show nI i + Int32.ofInt 6 = nI (i + 6) from nI_add i 6]
      rfl
    · exact gv_goto (tgt := 18) dL_law_699 (by decide) (ih (i + 6) U (by omega) (by omega) hU)
end LAW
