section MO5
variable {g : GG} {S : St}
def Bm (S : St) (nf nc nb : Nat) : Prop := S.1 22 = nI nf ∧ nf ≤ 40 ∧ S.1 23 = nI nc ∧ nc ≤ 200 ∧ S.1 24 = nI nb ∧ nb ≤ 300 ∧ (∀ k, k < nc → vp_in (S.2.1 27 k) 40) ∧ (∀ k, k < nb → vp_in (S.2.1 30 k) 40) ∧ (∀ k, k < nb → vp_in (S.2.1 32 k) 5) ∧ (∀ k, k < 4 → 1 ≤ S.2.1 36 k)
theorem Bm.eq {X : St} {nf nc nb : Nat} (h : Bm S nf nc nb) (e : eqB X S) : Bm X nf nc nb := by
  obtain ⟨e1, e2, -⟩ := e
  unfold Bm
  rw [e1, e2]
  exact h
/-- all that a group gives at a level -/
def gaF (gr : Nat → Int32) (ca : Nat → Int64) (grp : Int32) (lv : Int64) : Nat → Int64
  | 0 => 0
  | k + 1 => gaF gr ca grp lv k + (if gr k = grp then (if lv ≤ ca k then lv else ca k) else 0)
theorem c_X10_givenAt {grp : Int32} {lv : Int64} {n : Nat} (hs : S.1 22 = nI n) (hn : n ≤ 40) : Ct g mX10_givenAt [.ref 43, .int grp, .long lv] (hC S) (RJl (gaF (S.2.1 24) (S.2.2.2.1 14) grp lv n) S) := by
  have L : ∀ k, k ≤ n → Ev g mX10_givenAt 6 [(0, .ref 43), (1, .int grp), (2, .long lv), (4, .long (gaF (S.2.1 24) (S.2.2.2.1 14) grp lv k)), (6, .int (nI k))] [] (hC S) (RJl (gaF (S.2.1 24) (S.2.2.2.1 14) grp lv n) S) := by
    refine loop_up n ?_ ?_
    · skip
      refine ev_iload (pc := 6) dX10_givenAt_6 rfl ?_
      refine ev_aload_n (pc := 8) dX10_givenAt_8 rfl ?_
      refine get_MO_farmers (pc := 9) dX10_givenAt_9 Fl_X10_129 hs ?_
      refine ev_icmp_geN (pc := 12) (tgt := 64) (by omega) (by omega) dX10_givenAt_12 (by decide) (fun cq12 => ?_) (fun cq12 => absurd (Nat.le_refl n) cq12)
      refine ev_lload (pc := 64) dX10_givenAt_64 rfl ?_
      exact ev_lret (pc := 66) dX10_givenAt_66 rfl rl
    · intro k hk ih
      rw [gaF] at ih
      refine ev_iload (pc := 6) dX10_givenAt_6 rfl ?_
      refine ev_aload_n (pc := 8) dX10_givenAt_8 rfl ?_
      refine get_MO_farmers (pc := 9) dX10_givenAt_9 Fl_X10_129 hs ?_
      refine ev_icmp_geN (pc := 12) (tgt := 64) (by omega) (by omega) dX10_givenAt_12 (by decide) (fun cq12 => absurd cq12 (by omega)) (fun cq12 => ?_)
      refine ev_lload (pc := 15) dX10_givenAt_15 rfl ?_
      refine ev_aload_n (pc := 17) dX10_givenAt_17 rfl ?_
      refine get_MO_fGroup (pc := 18) dX10_givenAt_18 Fl_X10_7 ?_
      refine ev_iload (pc := 21) dX10_givenAt_21 rfl ?_
      refine ldN_MO_fGroup (pc := 23) dX10_givenAt_23 (by omega) rfl ?_
      refine ev_iload_n (pc := 24) dX10_givenAt_24 rfl ?_
      refine ev_icmp_eq (pc := 25) (tgt := 32) dX10_givenAt_25 (by decide) (fun cq25 => ?_) (fun cq25 => ?_)
      · rw [if_pos cq25] at ih
        refine ev_aload_n (pc := 32) dX10_givenAt_32 rfl ?_
        refine get_MO_can (pc := 33) dX10_givenAt_33 Fl_X10_87 ?_
        refine ev_iload (pc := 36) dX10_givenAt_36 rfl ?_
        refine ldN_MO_can (pc := 38) dX10_givenAt_38 (by omega) rfl ?_
        refine ev_lload_n (pc := 39) dX10_givenAt_39 rfl ?_
        refine ev_lcmp_ge (pc := 40) (tgt := 54) dX10_givenAt_40 dX10_givenAt_41 (by decide) (fun cq40 => ?_) (fun cq40 => ?_)
        · rw [if_pos cq40] at ih
          refine ev_lload_n (pc := 54) dX10_givenAt_54 rfl ?_
          refine ev_ladd (pc := 55) dX10_givenAt_55 ?_
          refine ev_lstore (pc := 56) (lv' := [(0, .ref 43), (1, .int _), (2, .long _), (4, .long _), (6, .int _)]) dX10_givenAt_56 (Nat.le_of_ble_eq_true rfl) rfl ?_
          refine ev_iincN (pc := 58) (lv' := [(0, .ref 43), (1, .int _), (2, .long _), (4, .long _), (6, .int _)]) dX10_givenAt_58 rfl (Nat.le_of_ble_eq_true rfl) rfl ?_
          refine ev_goto (pc := 61) (tgt := 6) dX10_givenAt_61 (by decide) ?_
          exact ih
        · rw [if_neg cq40] at ih
          refine ev_aload_n (pc := 44) dX10_givenAt_44 rfl ?_
          refine get_MO_can (pc := 45) dX10_givenAt_45 Fl_X10_87 ?_
          refine ev_iload (pc := 48) dX10_givenAt_48 rfl ?_
          refine ldN_MO_can (pc := 50) dX10_givenAt_50 (by omega) rfl ?_
          refine ev_goto (pc := 51) (tgt := 55) dX10_givenAt_51 (by decide) ?_
          refine ev_ladd (pc := 55) dX10_givenAt_55 ?_
          refine ev_lstore (pc := 56) (lv' := [(0, .ref 43), (1, .int _), (2, .long _), (4, .long _), (6, .int _)]) dX10_givenAt_56 (Nat.le_of_ble_eq_true rfl) rfl ?_
          refine ev_iincN (pc := 58) (lv' := [(0, .ref 43), (1, .int _), (2, .long _), (4, .long _), (6, .int _)]) dX10_givenAt_58 rfl (Nat.le_of_ble_eq_true rfl) rfl ?_
          refine ev_goto (pc := 61) (tgt := 6) dX10_givenAt_61 (by decide) ?_
          exact ih
      · rw [if_neg cq25] at ih
        refine ev_lconst (pc := 28) (v := 0) dX10_givenAt_28 (by decide) ?_
        refine ev_goto (pc := 29) (tgt := 55) dX10_givenAt_29 (by decide) ?_
        refine ev_ladd (pc := 55) dX10_givenAt_55 ?_
        refine ev_lstore (pc := 56) (lv' := [(0, .ref 43), (1, .int _), (2, .long _), (4, .long _), (6, .int _)]) dX10_givenAt_56 (Nat.le_of_ble_eq_true rfl) rfl ?_
        refine ev_iincN (pc := 58) (lv' := [(0, .ref 43), (1, .int _), (2, .long _), (4, .long _), (6, .int _)]) dX10_givenAt_58 rfl (Nat.le_of_ble_eq_true rfl) rfl ?_
        refine ev_goto (pc := 61) (tgt := 6) dX10_givenAt_61 (by decide) ?_
        exact ih
  refine ct_of rfl rfl ?_
  refine ev_lconst (pc := 0) (v := 0) dX10_givenAt_0 (by decide) ?_
  refine ev_lstore (pc := 1) (lv' := [(0, .ref 43), (1, .int _), (2, .long _), (4, .long _)]) dX10_givenAt_1 (Nat.le_of_ble_eq_true rfl) rfl ?_
  refine ev_iconst (pc := 3) (v := nI 0) dX10_givenAt_3 (by decide) ?_
  refine ev_istore (pc := 4) (lv' := [(0, .ref 43), (1, .int _), (2, .long _), (4, .long _), (6, .int _)]) dX10_givenAt_4 (Nat.le_of_ble_eq_true rfl) rfl ?_
  exact L 0 (Nat.zero_le _)
def dbF (gr : Nat → Int32) (le : Nat → Int64) (grp : Int32) : Nat → Int64
  | 0 => 0
  | k + 1 => dbF gr le grp k + (if gr k = grp then le k else 0)
def msF (gr : Nat → Int32) (ca : Nat → Int64) (grp : Int32) : Nat → Int64
  | 0 => 0
  | k + 1 => if gr k = grp then (if ca k ≤ msF gr ca grp k then msF gr ca grp k else ca k) else msF gr ca grp k
def bsN (f : Int64 → Int64) (debts : Int64) : Nat → Nat → Nat → Nat
  | 0, a, _ => a
  | r + 1, a, b => if b - a ≤ 1 then a else if debts < f (lN ((a + b) / 2)) then bsN f debts r a ((a + b) / 2) else bsN f debts r ((a + b) / 2) b
def gvB (grp : Int32) (lo : Int64) (k : Nat) (p : St × Int64 × Int64) : St × Int64 × Int64 :=
  if p.1.2.1 24 k = grp then
    let more : Int64 := if p.1.2.2.2.1 14 k ≤ lo then 0 else if p.2.1 ≤ 0 then 0 else 1
    let X := setB p.1 15 (vp_updL (p.1.2.2.2.1 15) k ((if lo ≤ p.1.2.2.2.1 14 k then lo else p.1.2.2.2.1 14 k) + more))
    (X, p.2.1 - more, p.2.2 + X.2.2.2.1 15 k)
  else p
def pyB (grp : Int32) (k : Nat) (p : St × Int64) : St × Int64 :=
  if p.1.2.1 24 k = grp then
    let pays := if p.2 ≤ p.1.2.2.2.1 16 k then p.2 else p.1.2.2.2.1 16 k
    (setB p.1 16 (vp_updL (p.1.2.2.2.1 16) k (p.1.2.2.2.1 16 k - pays)), p.2 - pays)
  else p
def lowM (grp : Int32) (n : Nat) (S : St) : Int64 := lN (bsN (fun z => gaF (S.2.1 24) (S.2.2.2.1 14) grp z n) (dbF (S.2.1 24) (S.2.2.2.1 16) grp n) 62 0 ((msF (S.2.1 24) (S.2.2.2.1 14) grp n).toInt.toNat + 1))
def standM (grp : Int32) (n : Nat) (S : St) : St :=
  let lo := lowM grp n S
  let q := it (gvB grp lo) n (S, dbF (S.2.1 24) (S.2.2.2.1 16) grp n - gaF (S.2.1 24) (S.2.2.2.1 14) grp lo n, 0)
  (it (pyB grp) n (q.1, q.2.2)).1
theorem gvB_eq (grp : Int32) (lo : Int64) (k : Nat) (p : St × Int64 × Int64) : eqB (gvB grp lo k p).1 p.1 := by
  unfold gvB
  by_cases h : p.1.2.1 24 k = grp
  · rw [if_pos h]; exact eqB.rf
  · rw [if_neg h]; exact eqB.rf
theorem gvB_eqs (grp : Int32) (lo : Int64) : ∀ (k : Nat) (p : St × Int64 × Int64), eqB (it (gvB grp lo) k p).1 p.1
  | 0, _ => eqB.rf
  | k + 1, p => (gvB_eq grp lo k _).tr (gvB_eqs grp lo k p)
theorem pyB_eq (grp : Int32) (k : Nat) (p : St × Int64) : eqB (pyB grp k p).1 p.1 := by
  unfold pyB
  by_cases h : p.1.2.1 24 k = grp
  · rw [if_pos h]; exact eqB.rf
  · rw [if_neg h]; exact eqB.rf
theorem pyB_eqs (grp : Int32) : ∀ (k : Nat) (p : St × Int64), eqB (it (pyB grp) k p).1 p.1
  | 0, _ => eqB.rf
  | k + 1, p => (pyB_eq grp k _).tr (pyB_eqs grp k p)
theorem standM_eq (grp : Int32) (n : Nat) (S : St) : eqB (standM grp n S) S := (pyB_eqs grp n _).tr (gvB_eqs grp _ n _)
theorem gv_step {grp : Int32} {db ms lo hi : Int64} {n : Nat} (p : St × Int64 × Int64) (k : Nat) (Post : Option Value → List va_E → Prop) (hk : k < n) (hn : n ≤ 40) (hs : p.1.1 22 = nI n) (ih : Ev g mX10_stand 159 [(0, .ref 43), (1, .int grp), (2, .long db), (4, .long ms), (6, .long lo), (8, .long hi), (10, .long (gvB grp lo k p).2.1), (12, .long (gvB grp lo k p).2.2), (14, .int (nI (k + 1)))] [] (hC (gvB grp lo k p).1) Post) : Ev g mX10_stand 159 [(0, .ref 43), (1, .int grp), (2, .long db), (4, .long ms), (6, .long lo), (8, .long hi), (10, .long p.2.1), (12, .long p.2.2), (14, .int (nI k))] [] (hC p.1) Post := by
  unfold gvB at ih
  dsimp only at ih
  refine ev_iload (pc := 159) dX10_stand_159 rfl ?_
  refine ev_aload_n (pc := 161) dX10_stand_161 rfl ?_
  refine get_MO_farmers (pc := 162) dX10_stand_162 Fl_X10_129 hs ?_
  refine ev_icmp_geN (pc := 165) (tgt := 282) (by omega) (by omega) dX10_stand_165 (by decide) (fun cq165 => absurd cq165 (by omega)) (fun cq165 => ?_)
  refine ev_aload_n (pc := 168) dX10_stand_168 rfl ?_
  refine get_MO_fGroup (pc := 169) dX10_stand_169 Fl_X10_7 ?_
  refine ev_iload (pc := 172) dX10_stand_172 rfl ?_
  refine ldN_MO_fGroup (pc := 174) dX10_stand_174 (by omega) rfl ?_
  refine ev_iload_n (pc := 175) dX10_stand_175 rfl ?_
  refine ev_icmp_ne (pc := 176) (tgt := 276) dX10_stand_176 (by decide) (fun cq176 => ?_) (fun cq176 => ?_)
  · rw [if_neg cq176] at ih
    refine ev_iincN (pc := 276) (lv' := [(0, .ref 43), (1, .int _), (2, .long _), (4, .long _), (6, .long _), (8, .long _), (10, .long _), (12, .long _), (14, .int _)]) dX10_stand_276 rfl (Nat.le_of_ble_eq_true rfl) rfl ?_
    refine ev_goto (pc := 279) (tgt := 159) dX10_stand_279 (by decide) ?_
    exact ev_keep [0, 1, 2, 4, 6, 8, 10, 12, 14] ih
  · rw [if_pos cq176] at ih
    refine ev_aload_n (pc := 179) dX10_stand_179 rfl ?_
    refine get_MO_can (pc := 180) dX10_stand_180 Fl_X10_87 ?_
    refine ev_iload (pc := 183) dX10_stand_183 rfl ?_
    refine ldN_MO_can (pc := 185) dX10_stand_185 (by omega) rfl ?_
    refine ev_lload (pc := 186) dX10_stand_186 rfl ?_
    refine ev_lcmp_le (pc := 188) (tgt := 203) dX10_stand_188 dX10_stand_189 (by decide) (fun cq188 => ?_) (fun cq188 => ?_)
    · simp only [if_pos cq188] at ih
      refine ev_iconst (pc := 203) (v := 0) dX10_stand_203 (by decide) ?_
      refine ev_istore (pc := 204) (lv' := [(0, .ref 43), (1, .int _), (2, .long _), (4, .long _), (6, .long _), (8, .long _), (10, .long _), (12, .long _), (14, .int _), (15, .int _)]) dX10_stand_204 (Nat.le_of_ble_eq_true rfl) rfl ?_
      refine ev_aload_n (pc := 206) dX10_stand_206 rfl ?_
      refine get_MO_given (pc := 207) dX10_stand_207 Fl_X10_90 ?_
      refine ev_iload (pc := 210) dX10_stand_210 rfl ?_
      refine ev_aload_n (pc := 212) dX10_stand_212 rfl ?_
      refine get_MO_can (pc := 213) dX10_stand_213 Fl_X10_87 ?_
      refine ev_iload (pc := 216) dX10_stand_216 rfl ?_
      refine ldN_MO_can (pc := 218) dX10_stand_218 (by omega) rfl ?_
      refine ev_lload (pc := 219) dX10_stand_219 rfl ?_
      refine ev_lcmp_ge (pc := 221) (tgt := 235) dX10_stand_221 dX10_stand_222 (by decide) (fun cq221 => ?_) (fun cq221 => ?_)
      · simp only [if_pos cq221] at ih
        refine ev_lload (pc := 235) dX10_stand_235 rfl ?_
        refine ev_iload (pc := 237) dX10_stand_237 rfl ?_
        refine ev_if_eq (pc := 239) (tgt := 246) dX10_stand_239 (by decide) (fun cq239 => ?_) (fun cq239 => absurd rfl cq239)
        refine ev_lconst (pc := 246) (v := 0) dX10_stand_246 (by decide) ?_
        refine ev_ladd (pc := 247) dX10_stand_247 ?_
        refine asN_MO_given (pc := 248) dX10_stand_248 (by omega) ?_
        refine ev_lload (pc := 249) dX10_stand_249 rfl ?_
        refine ev_iload (pc := 251) dX10_stand_251 rfl ?_
        refine ev_if_eq (pc := 253) (tgt := 260) dX10_stand_253 (by decide) (fun cq253 => ?_) (fun cq253 => absurd rfl cq253)
        refine ev_lconst (pc := 260) (v := 0) dX10_stand_260 (by decide) ?_
        refine ev_lsub (pc := 261) dX10_stand_261 ?_
        refine ev_lstore (pc := 262) (lv' := [(0, .ref 43), (1, .int _), (2, .long _), (4, .long _), (6, .long _), (8, .long _), (10, .long _), (12, .long _), (14, .int _), (15, .int _)]) dX10_stand_262 (Nat.le_of_ble_eq_true rfl) rfl ?_
        refine ev_lload (pc := 264) dX10_stand_264 rfl ?_
        refine ev_aload_n (pc := 266) dX10_stand_266 rfl ?_
        refine get_MO_given (pc := 267) dX10_stand_267 Fl_X10_90 ?_
        refine ev_iload (pc := 270) dX10_stand_270 rfl ?_
        refine ldN_MO_given (pc := 272) dX10_stand_272 (by omega) rfl ?_
        refine ev_ladd (pc := 273) dX10_stand_273 ?_
        refine ev_lstore (pc := 274) (lv' := [(0, .ref 43), (1, .int _), (2, .long _), (4, .long _), (6, .long _), (8, .long _), (10, .long _), (12, .long _), (14, .int _), (15, .int _)]) dX10_stand_274 (Nat.le_of_ble_eq_true rfl) rfl ?_
        refine ev_iincN (pc := 276) (lv' := [(0, .ref 43), (1, .int _), (2, .long _), (4, .long _), (6, .long _), (8, .long _), (10, .long _), (12, .long _), (14, .int _), (15, .int _)]) dX10_stand_276 rfl (Nat.le_of_ble_eq_true rfl) rfl ?_
        refine ev_goto (pc := 279) (tgt := 159) dX10_stand_279 (by decide) ?_
        exact ev_keep [0, 1, 2, 4, 6, 8, 10, 12, 14] ih
      · simp only [if_neg cq221] at ih
        refine ev_aload_n (pc := 225) dX10_stand_225 rfl ?_
        refine get_MO_can (pc := 226) dX10_stand_226 Fl_X10_87 ?_
        refine ev_iload (pc := 229) dX10_stand_229 rfl ?_
        refine ldN_MO_can (pc := 231) dX10_stand_231 (by omega) rfl ?_
        refine ev_goto (pc := 232) (tgt := 237) dX10_stand_232 (by decide) ?_
        refine ev_iload (pc := 237) dX10_stand_237 rfl ?_
        refine ev_if_eq (pc := 239) (tgt := 246) dX10_stand_239 (by decide) (fun cq239 => ?_) (fun cq239 => absurd rfl cq239)
        refine ev_lconst (pc := 246) (v := 0) dX10_stand_246 (by decide) ?_
        refine ev_ladd (pc := 247) dX10_stand_247 ?_
        refine asN_MO_given (pc := 248) dX10_stand_248 (by omega) ?_
        refine ev_lload (pc := 249) dX10_stand_249 rfl ?_
        refine ev_iload (pc := 251) dX10_stand_251 rfl ?_
        refine ev_if_eq (pc := 253) (tgt := 260) dX10_stand_253 (by decide) (fun cq253 => ?_) (fun cq253 => absurd rfl cq253)
        refine ev_lconst (pc := 260) (v := 0) dX10_stand_260 (by decide) ?_
        refine ev_lsub (pc := 261) dX10_stand_261 ?_
        refine ev_lstore (pc := 262) (lv' := [(0, .ref 43), (1, .int _), (2, .long _), (4, .long _), (6, .long _), (8, .long _), (10, .long _), (12, .long _), (14, .int _), (15, .int _)]) dX10_stand_262 (Nat.le_of_ble_eq_true rfl) rfl ?_
        refine ev_lload (pc := 264) dX10_stand_264 rfl ?_
        refine ev_aload_n (pc := 266) dX10_stand_266 rfl ?_
        refine get_MO_given (pc := 267) dX10_stand_267 Fl_X10_90 ?_
        refine ev_iload (pc := 270) dX10_stand_270 rfl ?_
        refine ldN_MO_given (pc := 272) dX10_stand_272 (by omega) rfl ?_
        refine ev_ladd (pc := 273) dX10_stand_273 ?_
        refine ev_lstore (pc := 274) (lv' := [(0, .ref 43), (1, .int _), (2, .long _), (4, .long _), (6, .long _), (8, .long _), (10, .long _), (12, .long _), (14, .int _), (15, .int _)]) dX10_stand_274 (Nat.le_of_ble_eq_true rfl) rfl ?_
        refine ev_iincN (pc := 276) (lv' := [(0, .ref 43), (1, .int _), (2, .long _), (4, .long _), (6, .long _), (8, .long _), (10, .long _), (12, .long _), (14, .int _), (15, .int _)]) dX10_stand_276 rfl (Nat.le_of_ble_eq_true rfl) rfl ?_
        refine ev_goto (pc := 279) (tgt := 159) dX10_stand_279 (by decide) ?_
        exact ev_keep [0, 1, 2, 4, 6, 8, 10, 12, 14] ih
    · simp only [if_neg cq188] at ih
      refine ev_lload (pc := 192) dX10_stand_192 rfl ?_
      refine ev_lconst (pc := 194) (v := 0) dX10_stand_194 (by decide) ?_
      refine ev_lcmp_le (pc := 195) (tgt := 203) dX10_stand_195 dX10_stand_196 (by decide) (fun cq195 => ?_) (fun cq195 => ?_)
      · simp only [if_pos cq195] at ih
        refine ev_iconst (pc := 203) (v := 0) dX10_stand_203 (by decide) ?_
        refine ev_istore (pc := 204) (lv' := [(0, .ref 43), (1, .int _), (2, .long _), (4, .long _), (6, .long _), (8, .long _), (10, .long _), (12, .long _), (14, .int _), (15, .int _)]) dX10_stand_204 (Nat.le_of_ble_eq_true rfl) rfl ?_
        refine ev_aload_n (pc := 206) dX10_stand_206 rfl ?_
        refine get_MO_given (pc := 207) dX10_stand_207 Fl_X10_90 ?_
        refine ev_iload (pc := 210) dX10_stand_210 rfl ?_
        refine ev_aload_n (pc := 212) dX10_stand_212 rfl ?_
        refine get_MO_can (pc := 213) dX10_stand_213 Fl_X10_87 ?_
        refine ev_iload (pc := 216) dX10_stand_216 rfl ?_
        refine ldN_MO_can (pc := 218) dX10_stand_218 (by omega) rfl ?_
        refine ev_lload (pc := 219) dX10_stand_219 rfl ?_
        refine ev_lcmp_ge (pc := 221) (tgt := 235) dX10_stand_221 dX10_stand_222 (by decide) (fun cq221 => ?_) (fun cq221 => ?_)
        · simp only [if_pos cq221] at ih
          refine ev_lload (pc := 235) dX10_stand_235 rfl ?_
          refine ev_iload (pc := 237) dX10_stand_237 rfl ?_
          refine ev_if_eq (pc := 239) (tgt := 246) dX10_stand_239 (by decide) (fun cq239 => ?_) (fun cq239 => absurd rfl cq239)
          refine ev_lconst (pc := 246) (v := 0) dX10_stand_246 (by decide) ?_
          refine ev_ladd (pc := 247) dX10_stand_247 ?_
          refine asN_MO_given (pc := 248) dX10_stand_248 (by omega) ?_
          refine ev_lload (pc := 249) dX10_stand_249 rfl ?_
          refine ev_iload (pc := 251) dX10_stand_251 rfl ?_
          refine ev_if_eq (pc := 253) (tgt := 260) dX10_stand_253 (by decide) (fun cq253 => ?_) (fun cq253 => absurd rfl cq253)
          refine ev_lconst (pc := 260) (v := 0) dX10_stand_260 (by decide) ?_
          refine ev_lsub (pc := 261) dX10_stand_261 ?_
          refine ev_lstore (pc := 262) (lv' := [(0, .ref 43), (1, .int _), (2, .long _), (4, .long _), (6, .long _), (8, .long _), (10, .long _), (12, .long _), (14, .int _), (15, .int _)]) dX10_stand_262 (Nat.le_of_ble_eq_true rfl) rfl ?_
          refine ev_lload (pc := 264) dX10_stand_264 rfl ?_
          refine ev_aload_n (pc := 266) dX10_stand_266 rfl ?_
          refine get_MO_given (pc := 267) dX10_stand_267 Fl_X10_90 ?_
          refine ev_iload (pc := 270) dX10_stand_270 rfl ?_
          refine ldN_MO_given (pc := 272) dX10_stand_272 (by omega) rfl ?_
          refine ev_ladd (pc := 273) dX10_stand_273 ?_
          refine ev_lstore (pc := 274) (lv' := [(0, .ref 43), (1, .int _), (2, .long _), (4, .long _), (6, .long _), (8, .long _), (10, .long _), (12, .long _), (14, .int _), (15, .int _)]) dX10_stand_274 (Nat.le_of_ble_eq_true rfl) rfl ?_
          refine ev_iincN (pc := 276) (lv' := [(0, .ref 43), (1, .int _), (2, .long _), (4, .long _), (6, .long _), (8, .long _), (10, .long _), (12, .long _), (14, .int _), (15, .int _)]) dX10_stand_276 rfl (Nat.le_of_ble_eq_true rfl) rfl ?_
          refine ev_goto (pc := 279) (tgt := 159) dX10_stand_279 (by decide) ?_
          exact ev_keep [0, 1, 2, 4, 6, 8, 10, 12, 14] ih
        · simp only [if_neg cq221] at ih
          refine ev_aload_n (pc := 225) dX10_stand_225 rfl ?_
          refine get_MO_can (pc := 226) dX10_stand_226 Fl_X10_87 ?_
          refine ev_iload (pc := 229) dX10_stand_229 rfl ?_
          refine ldN_MO_can (pc := 231) dX10_stand_231 (by omega) rfl ?_
          refine ev_goto (pc := 232) (tgt := 237) dX10_stand_232 (by decide) ?_
          refine ev_iload (pc := 237) dX10_stand_237 rfl ?_
          refine ev_if_eq (pc := 239) (tgt := 246) dX10_stand_239 (by decide) (fun cq239 => ?_) (fun cq239 => absurd rfl cq239)
          refine ev_lconst (pc := 246) (v := 0) dX10_stand_246 (by decide) ?_
          refine ev_ladd (pc := 247) dX10_stand_247 ?_
          refine asN_MO_given (pc := 248) dX10_stand_248 (by omega) ?_
          refine ev_lload (pc := 249) dX10_stand_249 rfl ?_
          refine ev_iload (pc := 251) dX10_stand_251 rfl ?_
          refine ev_if_eq (pc := 253) (tgt := 260) dX10_stand_253 (by decide) (fun cq253 => ?_) (fun cq253 => absurd rfl cq253)
          refine ev_lconst (pc := 260) (v := 0) dX10_stand_260 (by decide) ?_
          refine ev_lsub (pc := 261) dX10_stand_261 ?_
          refine ev_lstore (pc := 262) (lv' := [(0, .ref 43), (1, .int _), (2, .long _), (4, .long _), (6, .long _), (8, .long _), (10, .long _), (12, .long _), (14, .int _), (15, .int _)]) dX10_stand_262 (Nat.le_of_ble_eq_true rfl) rfl ?_
          refine ev_lload (pc := 264) dX10_stand_264 rfl ?_
          refine ev_aload_n (pc := 266) dX10_stand_266 rfl ?_
          refine get_MO_given (pc := 267) dX10_stand_267 Fl_X10_90 ?_
          refine ev_iload (pc := 270) dX10_stand_270 rfl ?_
          refine ldN_MO_given (pc := 272) dX10_stand_272 (by omega) rfl ?_
          refine ev_ladd (pc := 273) dX10_stand_273 ?_
          refine ev_lstore (pc := 274) (lv' := [(0, .ref 43), (1, .int _), (2, .long _), (4, .long _), (6, .long _), (8, .long _), (10, .long _), (12, .long _), (14, .int _), (15, .int _)]) dX10_stand_274 (Nat.le_of_ble_eq_true rfl) rfl ?_
          refine ev_iincN (pc := 276) (lv' := [(0, .ref 43), (1, .int _), (2, .long _), (4, .long _), (6, .long _), (8, .long _), (10, .long _), (12, .long _), (14, .int _), (15, .int _)]) dX10_stand_276 rfl (Nat.le_of_ble_eq_true rfl) rfl ?_
          refine ev_goto (pc := 279) (tgt := 159) dX10_stand_279 (by decide) ?_
          exact ev_keep [0, 1, 2, 4, 6, 8, 10, 12, 14] ih
      · simp only [if_neg cq195] at ih
        refine ev_iconst (pc := 199) (v := 1) dX10_stand_199 (by decide) ?_
        refine ev_goto (pc := 200) (tgt := 204) dX10_stand_200 (by decide) ?_
        refine ev_istore (pc := 204) (lv' := [(0, .ref 43), (1, .int _), (2, .long _), (4, .long _), (6, .long _), (8, .long _), (10, .long _), (12, .long _), (14, .int _), (15, .int _)]) dX10_stand_204 (Nat.le_of_ble_eq_true rfl) rfl ?_
        refine ev_aload_n (pc := 206) dX10_stand_206 rfl ?_
        refine get_MO_given (pc := 207) dX10_stand_207 Fl_X10_90 ?_
        refine ev_iload (pc := 210) dX10_stand_210 rfl ?_
        refine ev_aload_n (pc := 212) dX10_stand_212 rfl ?_
        refine get_MO_can (pc := 213) dX10_stand_213 Fl_X10_87 ?_
        refine ev_iload (pc := 216) dX10_stand_216 rfl ?_
        refine ldN_MO_can (pc := 218) dX10_stand_218 (by omega) rfl ?_
        refine ev_lload (pc := 219) dX10_stand_219 rfl ?_
        refine ev_lcmp_ge (pc := 221) (tgt := 235) dX10_stand_221 dX10_stand_222 (by decide) (fun cq221 => ?_) (fun cq221 => ?_)
        · simp only [if_pos cq221] at ih
          refine ev_lload (pc := 235) dX10_stand_235 rfl ?_
          refine ev_iload (pc := 237) dX10_stand_237 rfl ?_
          refine ev_if_eq (pc := 239) (tgt := 246) dX10_stand_239 (by decide) (fun cq239 => absurd cq239 (by decide)) (fun cq239 => ?_)
          refine ev_lconst (pc := 242) (v := 1) dX10_stand_242 (by decide) ?_
          refine ev_goto (pc := 243) (tgt := 247) dX10_stand_243 (by decide) ?_
          refine ev_ladd (pc := 247) dX10_stand_247 ?_
          refine asN_MO_given (pc := 248) dX10_stand_248 (by omega) ?_
          refine ev_lload (pc := 249) dX10_stand_249 rfl ?_
          refine ev_iload (pc := 251) dX10_stand_251 rfl ?_
          refine ev_if_eq (pc := 253) (tgt := 260) dX10_stand_253 (by decide) (fun cq253 => absurd cq253 (by decide)) (fun cq253 => ?_)
          refine ev_lconst (pc := 256) (v := 1) dX10_stand_256 (by decide) ?_
          refine ev_goto (pc := 257) (tgt := 261) dX10_stand_257 (by decide) ?_
          refine ev_lsub (pc := 261) dX10_stand_261 ?_
          refine ev_lstore (pc := 262) (lv' := [(0, .ref 43), (1, .int _), (2, .long _), (4, .long _), (6, .long _), (8, .long _), (10, .long _), (12, .long _), (14, .int _), (15, .int _)]) dX10_stand_262 (Nat.le_of_ble_eq_true rfl) rfl ?_
          refine ev_lload (pc := 264) dX10_stand_264 rfl ?_
          refine ev_aload_n (pc := 266) dX10_stand_266 rfl ?_
          refine get_MO_given (pc := 267) dX10_stand_267 Fl_X10_90 ?_
          refine ev_iload (pc := 270) dX10_stand_270 rfl ?_
          refine ldN_MO_given (pc := 272) dX10_stand_272 (by omega) rfl ?_
          refine ev_ladd (pc := 273) dX10_stand_273 ?_
          refine ev_lstore (pc := 274) (lv' := [(0, .ref 43), (1, .int _), (2, .long _), (4, .long _), (6, .long _), (8, .long _), (10, .long _), (12, .long _), (14, .int _), (15, .int _)]) dX10_stand_274 (Nat.le_of_ble_eq_true rfl) rfl ?_
          refine ev_iincN (pc := 276) (lv' := [(0, .ref 43), (1, .int _), (2, .long _), (4, .long _), (6, .long _), (8, .long _), (10, .long _), (12, .long _), (14, .int _), (15, .int _)]) dX10_stand_276 rfl (Nat.le_of_ble_eq_true rfl) rfl ?_
          refine ev_goto (pc := 279) (tgt := 159) dX10_stand_279 (by decide) ?_
          exact ev_keep [0, 1, 2, 4, 6, 8, 10, 12, 14] ih
        · simp only [if_neg cq221] at ih
          refine ev_aload_n (pc := 225) dX10_stand_225 rfl ?_
          refine get_MO_can (pc := 226) dX10_stand_226 Fl_X10_87 ?_
          refine ev_iload (pc := 229) dX10_stand_229 rfl ?_
          refine ldN_MO_can (pc := 231) dX10_stand_231 (by omega) rfl ?_
          refine ev_goto (pc := 232) (tgt := 237) dX10_stand_232 (by decide) ?_
          refine ev_iload (pc := 237) dX10_stand_237 rfl ?_
          refine ev_if_eq (pc := 239) (tgt := 246) dX10_stand_239 (by decide) (fun cq239 => absurd cq239 (by decide)) (fun cq239 => ?_)
          refine ev_lconst (pc := 242) (v := 1) dX10_stand_242 (by decide) ?_
          refine ev_goto (pc := 243) (tgt := 247) dX10_stand_243 (by decide) ?_
          refine ev_ladd (pc := 247) dX10_stand_247 ?_
          refine asN_MO_given (pc := 248) dX10_stand_248 (by omega) ?_
          refine ev_lload (pc := 249) dX10_stand_249 rfl ?_
          refine ev_iload (pc := 251) dX10_stand_251 rfl ?_
          refine ev_if_eq (pc := 253) (tgt := 260) dX10_stand_253 (by decide) (fun cq253 => absurd cq253 (by decide)) (fun cq253 => ?_)
          refine ev_lconst (pc := 256) (v := 1) dX10_stand_256 (by decide) ?_
          refine ev_goto (pc := 257) (tgt := 261) dX10_stand_257 (by decide) ?_
          refine ev_lsub (pc := 261) dX10_stand_261 ?_
          refine ev_lstore (pc := 262) (lv' := [(0, .ref 43), (1, .int _), (2, .long _), (4, .long _), (6, .long _), (8, .long _), (10, .long _), (12, .long _), (14, .int _), (15, .int _)]) dX10_stand_262 (Nat.le_of_ble_eq_true rfl) rfl ?_
          refine ev_lload (pc := 264) dX10_stand_264 rfl ?_
          refine ev_aload_n (pc := 266) dX10_stand_266 rfl ?_
          refine get_MO_given (pc := 267) dX10_stand_267 Fl_X10_90 ?_
          refine ev_iload (pc := 270) dX10_stand_270 rfl ?_
          refine ldN_MO_given (pc := 272) dX10_stand_272 (by omega) rfl ?_
          refine ev_ladd (pc := 273) dX10_stand_273 ?_
          refine ev_lstore (pc := 274) (lv' := [(0, .ref 43), (1, .int _), (2, .long _), (4, .long _), (6, .long _), (8, .long _), (10, .long _), (12, .long _), (14, .int _), (15, .int _)]) dX10_stand_274 (Nat.le_of_ble_eq_true rfl) rfl ?_
          refine ev_iincN (pc := 276) (lv' := [(0, .ref 43), (1, .int _), (2, .long _), (4, .long _), (6, .long _), (8, .long _), (10, .long _), (12, .long _), (14, .int _), (15, .int _)]) dX10_stand_276 rfl (Nat.le_of_ble_eq_true rfl) rfl ?_
          refine ev_goto (pc := 279) (tgt := 159) dX10_stand_279 (by decide) ?_
          exact ev_keep [0, 1, 2, 4, 6, 8, 10, 12, 14] ih
theorem py_step {grp : Int32} {db ms lo hi mi : Int64} {n : Nat} (p : St × Int64) (k : Nat) (Post : Option Value → List va_E → Prop) (hk : k < n) (hn : n ≤ 40) (hs : p.1.1 22 = nI n) (ih : Ev g mX10_stand 285 [(0, .ref 43), (1, .int grp), (2, .long db), (4, .long ms), (6, .long lo), (8, .long hi), (10, .long mi), (12, .long (pyB grp k p).2), (14, .int (nI (k + 1)))] [] (hC (pyB grp k p).1) Post) : Ev g mX10_stand 285 [(0, .ref 43), (1, .int grp), (2, .long db), (4, .long ms), (6, .long lo), (8, .long hi), (10, .long mi), (12, .long p.2), (14, .int (nI k))] [] (hC p.1) Post := by
  unfold pyB at ih
  dsimp only at ih
  refine ev_iload (pc := 285) dX10_stand_285 rfl ?_
  refine ev_aload_n (pc := 287) dX10_stand_287 rfl ?_
  refine get_MO_farmers (pc := 288) dX10_stand_288 Fl_X10_129 hs ?_
  refine ev_icmp_geN (pc := 291) (tgt := 357) (by omega) (by omega) dX10_stand_291 (by decide) (fun cq291 => absurd cq291 (by omega)) (fun cq291 => ?_)
  refine ev_aload_n (pc := 294) dX10_stand_294 rfl ?_
  refine get_MO_fGroup (pc := 295) dX10_stand_295 Fl_X10_7 ?_
  refine ev_iload (pc := 298) dX10_stand_298 rfl ?_
  refine ldN_MO_fGroup (pc := 300) dX10_stand_300 (by omega) rfl ?_
  refine ev_iload_n (pc := 301) dX10_stand_301 rfl ?_
  refine ev_icmp_ne (pc := 302) (tgt := 351) dX10_stand_302 (by decide) (fun cq302 => ?_) (fun cq302 => ?_)
  · rw [if_neg cq302] at ih
    refine ev_iincN (pc := 351) (lv' := [(0, .ref 43), (1, .int _), (2, .long _), (4, .long _), (6, .long _), (8, .long _), (10, .long _), (12, .long _), (14, .int _)]) dX10_stand_351 rfl (Nat.le_of_ble_eq_true rfl) rfl ?_
    refine ev_goto (pc := 354) (tgt := 285) dX10_stand_354 (by decide) ?_
    exact ev_keep [0, 1, 2, 4, 6, 8, 10, 12, 14] ih
  · rw [if_pos cq302] at ih
    refine ev_aload_n (pc := 305) dX10_stand_305 rfl ?_
    refine get_MO_left (pc := 306) dX10_stand_306 Fl_X10_93 ?_
    refine ev_iload (pc := 309) dX10_stand_309 rfl ?_
    refine ldN_MO_left (pc := 311) dX10_stand_311 (by omega) rfl ?_
    refine ev_lload (pc := 312) dX10_stand_312 rfl ?_
    refine ev_lcmp_ge (pc := 314) (tgt := 328) dX10_stand_314 dX10_stand_315 (by decide) (fun cq314 => ?_) (fun cq314 => ?_)
    · simp only [if_pos cq314] at ih
      refine ev_lload (pc := 328) dX10_stand_328 rfl ?_
      refine ev_lstore (pc := 330) (lv' := [(0, .ref 43), (1, .int _), (2, .long _), (4, .long _), (6, .long _), (8, .long _), (10, .long _), (12, .long _), (14, .int _), (15, .long _)]) dX10_stand_330 (Nat.le_of_ble_eq_true rfl) rfl ?_
      refine ev_aload_n (pc := 332) dX10_stand_332 rfl ?_
      refine get_MO_left (pc := 333) dX10_stand_333 Fl_X10_93 ?_
      refine ev_iload (pc := 336) dX10_stand_336 rfl ?_
      refine ev_dup2 (pc := 338) dX10_stand_338 rfl rfl ?_
      refine ldN_MO_left (pc := 339) dX10_stand_339 (by omega) rfl ?_
      refine ev_lload (pc := 340) dX10_stand_340 rfl ?_
      refine ev_lsub (pc := 342) dX10_stand_342 ?_
      refine asN_MO_left (pc := 343) dX10_stand_343 (by omega) ?_
      refine ev_lload (pc := 344) dX10_stand_344 rfl ?_
      refine ev_lload (pc := 346) dX10_stand_346 rfl ?_
      refine ev_lsub (pc := 348) dX10_stand_348 ?_
      refine ev_lstore (pc := 349) (lv' := [(0, .ref 43), (1, .int _), (2, .long _), (4, .long _), (6, .long _), (8, .long _), (10, .long _), (12, .long _), (14, .int _), (15, .long _)]) dX10_stand_349 (Nat.le_of_ble_eq_true rfl) rfl ?_
      refine ev_iincN (pc := 351) (lv' := [(0, .ref 43), (1, .int _), (2, .long _), (4, .long _), (6, .long _), (8, .long _), (10, .long _), (12, .long _), (14, .int _), (15, .long _)]) dX10_stand_351 rfl (Nat.le_of_ble_eq_true rfl) rfl ?_
      refine ev_goto (pc := 354) (tgt := 285) dX10_stand_354 (by decide) ?_
      exact ev_keep [0, 1, 2, 4, 6, 8, 10, 12, 14] ih
    · simp only [if_neg cq314] at ih
      refine ev_aload_n (pc := 318) dX10_stand_318 rfl ?_
      refine get_MO_left (pc := 319) dX10_stand_319 Fl_X10_93 ?_
      refine ev_iload (pc := 322) dX10_stand_322 rfl ?_
      refine ldN_MO_left (pc := 324) dX10_stand_324 (by omega) rfl ?_
      refine ev_goto (pc := 325) (tgt := 330) dX10_stand_325 (by decide) ?_
      refine ev_lstore (pc := 330) (lv' := [(0, .ref 43), (1, .int _), (2, .long _), (4, .long _), (6, .long _), (8, .long _), (10, .long _), (12, .long _), (14, .int _), (15, .long _)]) dX10_stand_330 (Nat.le_of_ble_eq_true rfl) rfl ?_
      refine ev_aload_n (pc := 332) dX10_stand_332 rfl ?_
      refine get_MO_left (pc := 333) dX10_stand_333 Fl_X10_93 ?_
      refine ev_iload (pc := 336) dX10_stand_336 rfl ?_
      refine ev_dup2 (pc := 338) dX10_stand_338 rfl rfl ?_
      refine ldN_MO_left (pc := 339) dX10_stand_339 (by omega) rfl ?_
      refine ev_lload (pc := 340) dX10_stand_340 rfl ?_
      refine ev_lsub (pc := 342) dX10_stand_342 ?_
      refine asN_MO_left (pc := 343) dX10_stand_343 (by omega) ?_
      refine ev_lload (pc := 344) dX10_stand_344 rfl ?_
      refine ev_lload (pc := 346) dX10_stand_346 rfl ?_
      refine ev_lsub (pc := 348) dX10_stand_348 ?_
      refine ev_lstore (pc := 349) (lv' := [(0, .ref 43), (1, .int _), (2, .long _), (4, .long _), (6, .long _), (8, .long _), (10, .long _), (12, .long _), (14, .int _), (15, .long _)]) dX10_stand_349 (Nat.le_of_ble_eq_true rfl) rfl ?_
      refine ev_iincN (pc := 351) (lv' := [(0, .ref 43), (1, .int _), (2, .long _), (4, .long _), (6, .long _), (8, .long _), (10, .long _), (12, .long _), (14, .int _), (15, .long _)]) dX10_stand_351 rfl (Nat.le_of_ble_eq_true rfl) rfl ?_
      refine ev_goto (pc := 354) (tgt := 285) dX10_stand_354 (by decide) ?_
      exact ev_keep [0, 1, 2, 4, 6, 8, 10, 12, 14] ih
end MO5
