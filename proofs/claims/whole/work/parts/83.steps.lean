section STP
def Fi (li la : List Nat) (X S : St) : Prop := (∀ n, n ∉ li → X.1 n = S.1 n) ∧ (∀ n, n ∉ la → X.2.1 n = S.2.1 n)
theorem Fr.fi {li la ll lb : List Nat} {X S : St} (h : Fr li la ll lb X S) : Fi li la X S := ⟨h.1, h.2.1⟩
theorem Fr.un {li la ll lb li' la' ll' lb' : List Nat} {X Y S : St} (h : Fr li' la' ll' lb' X Y) (k : Fr li la ll lb Y S) : Fr (li ++ li') (la ++ la') (ll ++ ll') (lb ++ lb') X S := (Fr.wi h (fun n q => List.mem_append_right _ q) (fun n q => List.mem_append_right _ q) (fun n q => List.mem_append_right _ q) (fun n q => List.mem_append_right _ q)).tr (Fr.wi k (fun n q => List.mem_append_left _ q) (fun n q => List.mem_append_left _ q) (fun n q => List.mem_append_left _ q) (fun n q => List.mem_append_left _ q))
variable {li la : List Nat} {X S : St}
theorem RF.fi {nf : Nat} (h : RF S nf) (e : Fi li la X S) (d1 : ∀ n ∈ [2, 22], n ∉ li) (d2 : ∀ n ∈ ([0, 24, 1, 25, 2, 26] : List Nat), n ∉ la) : RF X nf := by
  unfold RF
  rw [e.1 2 (d1 _ (by decide)), e.1 22 (d1 _ (by decide)), e.2 0 (d2 _ (by decide)), e.2 24 (d2 _ (by decide)), e.2 1 (d2 _ (by decide)), e.2 25 (d2 _ (by decide)), e.2 2 (d2 _ (by decide)), e.2 26 (d2 _ (by decide))]
  exact h
theorem RC.fi {nf nc : Nat} (h : RC S nf nc) (e : Fi li la X S) (d1 : ∀ n ∈ [3, 23], n ∉ li) (d2 : ∀ n ∈ ([3, 27, 4, 28, 5, 29] : List Nat), n ∉ la) : RC X nf nc := by
  unfold RC
  rw [e.1 3 (d1 _ (by decide)), e.1 23 (d1 _ (by decide)), e.2 3 (d2 _ (by decide)), e.2 27 (d2 _ (by decide)), e.2 4 (d2 _ (by decide)), e.2 28 (d2 _ (by decide)), e.2 5 (d2 _ (by decide)), e.2 29 (d2 _ (by decide))]
  exact h
theorem RK.fi {nf nb : Nat} (h : RK S nf nb) (e : Fi li la X S) (d1 : ∀ n ∈ [4, 24, 5], n ∉ li) (d2 : ∀ n ∈ ([6, 30, 7, 31, 8, 32, 9, 33] : List Nat), n ∉ la) : RK X nf nb := by
  unfold RK
  rw [e.1 4 (d1 _ (by decide)), e.1 24 (d1 _ (by decide)), e.1 5 (d1 _ (by decide)), e.2 6 (d2 _ (by decide)), e.2 30 (d2 _ (by decide)), e.2 7 (d2 _ (by decide)), e.2 31 (d2 _ (by decide)), e.2 8 (d2 _ (by decide)), e.2 32 (d2 _ (by decide)), e.2 9 (d2 _ (by decide)), e.2 33 (d2 _ (by decide))]
  exact h
theorem RT.fi {len : Nat} (h : RT S len) (e : Fi li la X S) (d1 : ∀ n ∈ [6, 29], n ∉ li) (d2 : ∀ n ∈ ([10, 40] : List Nat), n ∉ la) : RT X len := by
  unfold RT
  rw [e.1 6 (d1 _ (by decide)), e.1 29 (d1 _ (by decide)), e.2 10 (d2 _ (by decide)), e.2 40 (d2 _ (by decide))]
  exact h
theorem RLa.fi {nd : Nat} (h : RLa S nd) (e : Fi li la X S) (d1 : ∀ n ∈ [10, 36, 11, 35], n ∉ li) (d2 : ∀ n ∈ ([11, 41, 12, 42, 13, 43] : List Nat), n ∉ la) : RLa X nd := by
  unfold RLa
  rw [e.1 10 (d1 _ (by decide)), e.1 36 (d1 _ (by decide)), e.1 11 (d1 _ (by decide)), e.1 35 (d1 _ (by decide)), e.2 11 (d2 _ (by decide)), e.2 41 (d2 _ (by decide)), e.2 12 (d2 _ (by decide)), e.2 42 (d2 _ (by decide)), e.2 13 (d2 _ (by decide)), e.2 43 (d2 _ (by decide))]
  exact h
theorem RVi.fi {nf nv : Nat} (h : RVi S nf nv) (e : Fi li la X S) (d1 : ∀ n ∈ [12, 37], n ∉ li) (d2 : ∀ n ∈ ([44, 45, 14, 15, 25] : List Nat), n ∉ la) : RVi X nf nv := by
  unfold RVi
  rw [e.1 12 (d1 _ (by decide)), e.1 37 (d1 _ (by decide)), e.2 44 (d2 _ (by decide)), e.2 45 (d2 _ (by decide)), e.2 14 (d2 _ (by decide)), e.2 15 (d2 _ (by decide)), e.2 25 (d2 _ (by decide))]
  exact h
theorem RM.fi (h : RM S) (e : Fi li la X S) (d1 : ∀ n ∈ [1, 21, 0, 33], n ∉ li) : RM X := by
  unfold RM
  rw [e.1 1 (d1 _ (by decide)), e.1 21 (d1 _ (by decide)), e.1 0 (d1 _ (by decide)), e.1 33 (d1 _ (by decide))]
  exact h
theorem RTm.fi {b : Nat} (hb : b < 2) (h : RTm S b) (e : Fi li la X S) (d1 : ∀ n ∈ [16, 16 + 1, 18, 18 + 1, 26, 25], n ∉ li) (d2 : ∀ n ∈ [18, 18 + 1, 20, 20 + 1, 22, 22 + 1, 34, 35, 36], n ∉ la) : RTm X b := by
  match b, hb with
  | 0, _ =>
    unfold RTm
    rw [e.1 (16 + 0) (d1 _ (by decide)), e.1 (18 + 0) (d1 _ (by decide)), e.1 26 (d1 _ (by decide)), e.1 25 (d1 _ (by decide)), e.2 (18 + 0) (d2 _ (by decide)), e.2 (20 + 0) (d2 _ (by decide)), e.2 (22 + 0) (d2 _ (by decide)), e.2 34 (d2 _ (by decide)), e.2 35 (d2 _ (by decide)), e.2 36 (d2 _ (by decide))]
    exact h
  | 1, _ =>
    unfold RTm
    rw [e.1 (16 + 1) (d1 _ (by decide)), e.1 (18 + 1) (d1 _ (by decide)), e.1 26 (d1 _ (by decide)), e.1 25 (d1 _ (by decide)), e.2 (18 + 1) (d2 _ (by decide)), e.2 (20 + 1) (d2 _ (by decide)), e.2 (22 + 1) (d2 _ (by decide)), e.2 34 (d2 _ (by decide)), e.2 35 (d2 _ (by decide)), e.2 36 (d2 _ (by decide))]
    exact h
theorem RP.fr {ll lb : List Nat} {b : Nat} (h : RP S b) (e : Fr li la ll lb X S) : RP X b := ⟨(e.2.2.2.2 0 (by decide)).trans h.1, (e.2.2.2.2 1 (by decide)).trans h.2⟩
/-- both halves, alike -/
def Rel (S : St) (b nf nc nb nd nv len : Nat) : Prop := b < 2 ∧ RF S nf ∧ RC S nf nc ∧ RK S nf nb ∧ RT S len ∧ RLa S nd ∧ RVi S nf nv ∧ RM S ∧ RTm S b ∧ RP S b
def RelE (S : St) : Prop := ∃ b nf nc nb nd nv len, Rel S b nf nc nb nd nv len
/-- one call on each half: the same answer, and they stay alike -/
def StI (g : GG) (S : St) (Mc Mm : MD) (as : List Value) : Prop := ∃ (v : Int32) (T U : St), Ct g Mc (.ref 0 :: as) (hC S) (RI v T) ∧ Ct g Mm (.ref 43 :: as) (hC T) (RI v U) ∧ RelE U
def StJ (g : GG) (S : St) (Mc Mm : MD) (as : List Value) : Prop := ∃ (v : Int64) (T U : St), Ct g Mc (.ref 0 :: as) (hC S) (RJl v T) ∧ Ct g Mm (.ref 43 :: as) (hC T) (RJl v U) ∧ RelE U
theorem RC.more {nf n nc : Nat} (h : RC S nf nc) (hn : nf ≤ n) : RC S n nc := by
  obtain ⟨h1, h2, h3, h4, h5, h6, h7⟩ := h
  refine ⟨h1, h2, h3, h4, h5, h6, fun k hk => ?_⟩
  obtain ⟨⟨i, hi, ei⟩, y⟩ := h7 k hk
  exact ⟨⟨i, by omega, ei⟩, y⟩
theorem RK.more {nf n nb : Nat} (h : RK S nf nb) (hn : nf ≤ n) : RK S n nb := by
  obtain ⟨h1, h2, h3, h4, h5, h6, h7, h8, h9⟩ := h
  refine ⟨h1, h2, h3, h4, h5, h6, h7, h8, fun k hk => ?_⟩
  obtain ⟨⟨i, hi, ei⟩, y⟩ := h9 k hk
  exact ⟨⟨i, by omega, ei⟩, y⟩
theorem farmerC_fr {nf : Nat} {a b c : Int32} : Fr [2, 1] [0, 1, 2] [] [] (farmerC nf a b c S).2 S := by
  unfold farmerC
  repeat' split
  all_goals first
  | (refine Fr.I ?_ Fr.rf <;> decide)
  | (refine Fr.I ?_ (Fr.I ?_ (Fr.A ?_ (Fr.A ?_ (Fr.A ?_ Fr.rf)))) <;> decide)
theorem farmerM_fr {nf : Nat} {a b c : Int32} : Fr [20, 21, 22] [24, 25, 26] [] [] (farmerM nf a b c S).2 S := by
  unfold farmerM
  repeat' split
  all_goals first
  | (refine Fr.I ?_ (Fr.I ?_ Fr.rf) <;> decide)
  | (refine Fr.I ?_ (Fr.I ?_ (Fr.A ?_ (Fr.A ?_ (Fr.A ?_ (Fr.I ?_ Fr.rf))))) <;> decide)
theorem creditC_fr {nf nc : Nat} {a b c : Int32} : Fr [3, 1] [3, 4, 5] [] [] (creditC nf nc a b c S).2 S := by
  unfold creditC
  repeat' split
  all_goals first
  | (refine Fr.I ?_ Fr.rf <;> decide)
  | (refine Fr.I ?_ (Fr.I ?_ (Fr.A ?_ (Fr.A ?_ (Fr.A ?_ Fr.rf)))) <;> decide)
theorem creditM_fr {nf nc : Nat} {a b c : Int32} : Fr [20, 21, 23] [27, 28, 29] [] [] (creditM nf nc a b c S).2 S := by
  unfold creditM
  repeat' split
  all_goals first
  | (refine Fr.I ?_ (Fr.I ?_ Fr.rf) <;> decide)
  | (refine Fr.I ?_ (Fr.I ?_ (Fr.A ?_ (Fr.A ?_ (Fr.A ?_ (Fr.I ?_ Fr.rf))))) <;> decide)
theorem basketC_fr {nf nb : Nat} {a b c d : Int32} : Fr [4, 5, 1] [6, 7, 8, 9] [] [] (basketC nf nb a b c d S).2 S := by
  unfold basketC
  repeat' split
  all_goals first
  | (refine Fr.I ?_ Fr.rf <;> decide)
  | (refine Fr.I ?_ (Fr.I ?_ (Fr.I ?_ (Fr.A ?_ (Fr.A ?_ (Fr.A ?_ (Fr.A ?_ Fr.rf)))))) <;> decide)
theorem basketM_fr {nf nb : Nat} {a b c d : Int32} : Fr [20, 21, 24] [30, 31, 32, 33] [] [] (basketM nf nb a b c d S).2 S := by
  unfold basketM
  repeat' split
  all_goals first
  | (refine Fr.I ?_ (Fr.I ?_ Fr.rf) <;> decide)
  | (refine Fr.I ?_ (Fr.I ?_ (Fr.A ?_ (Fr.A ?_ (Fr.A ?_ (Fr.A ?_ (Fr.I ?_ Fr.rf)))))) <;> decide)
theorem endC_fr {a : Int32} : Fr [6] [] [] [] (endC a S).2 S := by
  unfold endC
  repeat' split
  all_goals first
  | (exact Fr.rf)
  | (refine Fr.I ?_ Fr.rf <;> decide)
theorem endM_fr {a : Int32} : Fr [20, 29] [] [] [] (endM a S).2 S := by
  unfold endM
  repeat' split
  all_goals first
  | (refine Fr.I ?_ Fr.rf <;> decide)
  | (refine Fr.I ?_ (Fr.I ?_ Fr.rf) <;> decide)
theorem bearsC_fr {a : Int32} : Fr [11, 1] [] [] [] (bearsC a S).2 S := by
  unfold bearsC
  repeat' split
  all_goals first
  | (refine Fr.I ?_ Fr.rf <;> decide)
  | (refine Fr.I ?_ (Fr.I ?_ Fr.rf) <;> decide)
theorem bearsM_fr {a : Int32} : Fr [20, 35, 21] [] [] [] (bearsM a S).2 S := by
  unfold bearsM
  repeat' split
  all_goals first
  | (refine Fr.I ?_ (Fr.I ?_ Fr.rf) <;> decide)
  | (refine Fr.I ?_ (Fr.I ?_ (Fr.I ?_ Fr.rf)) <;> decide)
theorem droughtC_fr {nd : Nat} {a b c : Int32} : Fr [10, 1] [11, 12, 13] [] [] (droughtC nd a b c S).2 S := by
  unfold droughtC
  repeat' split
  all_goals first
  | (refine Fr.I ?_ Fr.rf <;> decide)
  | (refine Fr.I ?_ (Fr.I ?_ (Fr.A ?_ (Fr.A ?_ (Fr.A ?_ Fr.rf)))) <;> decide)
theorem droughtM_fr {nd : Nat} {a b c : Int32} : Fr [20, 36, 21] [41, 42, 43] [] [] (droughtM nd a b c S).2 S := by
  unfold droughtM
  repeat' split
  all_goals first
  | (refine Fr.I ?_ (Fr.I ?_ Fr.rf) <;> decide)
  | (refine Fr.I ?_ (Fr.I ?_ (Fr.A ?_ (Fr.A ?_ (Fr.A ?_ (Fr.I ?_ Fr.rf))))) <;> decide)
theorem byteS_fr {n : Nat} {x : Int32} {X : St} (h : Fr [6] [10] [] [] X S) : Fr [6] [10] [] [] (byteS n x X) S := by
  first
  | (refine Fr.I ?_ (Fr.A ?_ h) <;> decide)
  | (refine Fr.A ?_ (Fr.I ?_ h) <;> decide)
theorem byteM_fr {n : Nat} {x : Int32} {X : St} (h : Fr [20, 29] [40] [] [] X S) : Fr [20, 29] [40] [] [] (byteM n x X) S := by
  first
  | (refine Fr.I ?_ (Fr.A ?_ h) <;> decide)
  | (refine Fr.A ?_ (Fr.I ?_ h) <;> decide)
theorem append_fr {n : Nat} {x : Int32} {X : St} (h : Fr [6] [10] [] [] X S) : Fr [6] [10] [] [] (appendS n x X) S := byteS_fr (byteS_fr (byteS_fr (byteS_fr h)))
theorem four_fr {n : Nat} {x : Int32} {X : St} (h : Fr [20, 29] [40] [] [] X S) : Fr [20, 29] [40] [] [] (fourM n x X) S := byteM_fr (byteM_fr (byteM_fr (byteM_fr h)))
theorem feedC_fr {n : Nat} {a b c d e : Int32} : Fr [6] [10] [] [] (feedC n a b c d e S).2 S := by
  unfold feedC
  split
  · exact append_fr (append_fr (append_fr (append_fr (append_fr Fr.rf))))
  · exact Fr.rf
theorem feedM_fr {n : Nat} {a b c d e : Int32} : Fr [20, 29] [40] [] [] (feedM n a b c d e S).2 S := by
  have h : Fr [20, 29] [40] [] [] (th S) S := Fr.I (by decide) Fr.rf
  unfold feedM
  split
  · exact four_fr (four_fr (four_fr (four_fr (four_fr h))))
  · exact h
theorem visitC_fr {nf nv : Nat} {a b : Int32} : Fr [12, 1] [14, 15] [] [] (visitC nf nv a b S).2 S := by
  unfold visitC
  repeat' split
  all_goals first
  | (refine Fr.I ?_ Fr.rf <;> decide)
  | exact Fr.I (by decide) (Fr.wi (by obtain ⟨q, -, -, -, -, -, h, -⟩ := addV_f (nv := nv) (p := S.2.1 1 a.toNatClampNeg) (h := b) (S := S); exact h) (by decide) (by decide) (fun n q => q) (fun n q => q))
theorem visitM_fr {nf nv : Nat} {a b : Int32} : Fr [20, 37, 21] [44, 45] [] [] (visitM nf nv a b S).2 S := by
  unfold visitM
  repeat' split
  all_goals first
  | (refine Fr.I ?_ (Fr.I ?_ Fr.rf) <;> decide)
  | (refine Fr.I ?_ (Fr.I ?_ (Fr.A ?_ (Fr.A ?_ (Fr.I ?_ Fr.rf)))) <;> decide)
variable {g : GG} {b nf nc nb nd nv len : Nat}
theorem farmer_P {k : Nat} {x y z : Int32} (hk : k < nf) : (farmerM nf x y z S).2.2.1 25 k = S.2.1 25 k := by
  unfold farmerM
  repeat' split
  all_goals first
  | rfl
  | exact upd_ne (f := S.2.1 25) (x := y) (Nat.ne_of_lt hk)
theorem st_farmer {x y z : Int32} (h : Rel S b nf nc nb nd nv len) : StI g S mX9_farmer mX10_farmer [.int x, .int y, .int z] := by
  obtain ⟨hb, hF, hC, hK, hT, hL, hV, hM, hTm, hP⟩ := h
  have fC := farmerC_fr (S := S) (nf := nf) (a := x) (b := y) (c := z)
  have fM := farmerM_fr (S := (farmerC nf x y z S).2) (nf := nf) (a := x) (b := y) (c := z)
  have fP : ∀ k, k < nf → (farmerM nf x y z (farmerC nf x y z S).2).2.2.1 25 k = S.2.1 25 k := fun k hk => (farmer_P hk).trans (congrFun (fC.2.1 _ (by decide)) k)
  have f := Fr.un fM fC
  have e := f.fi
  obtain ⟨s1, s2, n, s3, s4⟩ := s_farmer (a := x) (b := y) (c := z) hF hM
  refine ⟨_, _, _, c_X9_farmer hF.2.1 hF.1, ?_, b, n, nc, nb, nd, nv, len, hb, s3, (hC.fi e (by decide) (by decide)).more s4, (hK.fi e (by decide) (by decide)).more s4, hT.fi e (by decide) (by decide), hL.fi e (by decide) (by decide), hV.more s4 hF.1 (e.1 _ (by decide)) (e.1 _ (by decide)) (e.2 _ (by decide)) (e.2 _ (by decide)) (e.2 _ (by decide)) (e.2 _ (by decide)) (fun k hk => fP k hk), s2, RTm.fi hb hTm e (by decide) (by decide), hP.fr f⟩
  rw [s1]
  exact c_X10_farmer ((fC.1 22 (by decide)).trans hF.2.2.1) hF.1
theorem st_credit {x y z : Int32} (h : Rel S b nf nc nb nd nv len) : StI g S mX9_credit mX10_credit [.int x, .int y, .int z] := by
  obtain ⟨hb, hF, hC, hK, hT, hL, hV, hM, hTm, hP⟩ := h
  have fC := creditC_fr (S := S) (nf := nf) (nc := nc) (a := x) (b := y) (c := z)
  have fM := creditM_fr (S := (creditC nf nc x y z S).2) (nf := nf) (nc := nc) (a := x) (b := y) (c := z)
  have f := Fr.un fM fC
  have e := f.fi
  obtain ⟨s1, s2, n, s3⟩ := s_credit (f := x) (a := y) (k := z) hF.1 hC hM
  refine ⟨_, _, _, c_X9_credit hF.2.1 hC.2.1 hC.1, ?_, b, nf, n, nb, nd, nv, len, hb, hF.fi e (by decide) (by decide), s3, hK.fi e (by decide) (by decide), hT.fi e (by decide) (by decide), hL.fi e (by decide) (by decide), hV.fi e (by decide) (by decide), s2, RTm.fi hb hTm e (by decide) (by decide), hP.fr f⟩
  rw [s1]
  exact c_X10_credit ((fC.1 22 (by decide)).trans hF.2.2.1) hF.1 ((fC.1 23 (by decide)).trans hC.2.2.1) hC.1
theorem st_basket {x y z w : Int32} (h : Rel S b nf nc nb nd nv len) : StI g S mX9_basket mX10_basket [.int x, .int y, .int z, .int w] := by
  obtain ⟨hb, hF, hC, hK, hT, hL, hV, hM, hTm, hP⟩ := h
  have fC := basketC_fr (S := S) (nf := nf) (nb := nb) (a := x) (b := y) (c := z) (d := w)
  have fM := basketM_fr (S := (basketC nf nb x y z w S).2) (nf := nf) (nb := nb) (a := x) (b := y) (c := z) (d := w)
  have f := Fr.un fM fC
  have e := f.fi
  obtain ⟨s1, s2, n, s3⟩ := s_basket (f := x) (w := y) (r := z) (k := w) hF.1 hK hM
  refine ⟨_, _, _, c_X9_basket hF.2.1 hK.2.1 hK.1, ?_, b, nf, nc, n, nd, nv, len, hb, hF.fi e (by decide) (by decide), hC.fi e (by decide) (by decide), s3, hT.fi e (by decide) (by decide), hL.fi e (by decide) (by decide), hV.fi e (by decide) (by decide), s2, RTm.fi hb hTm e (by decide) (by decide), hP.fr f⟩
  rw [s1]
  exact c_X10_basket ((fC.1 22 (by decide)).trans hF.2.2.1) hF.1 ((fC.1 24 (by decide)).trans hK.2.2.1) hK.1
theorem st_feed {x y z w u : Int32} (h : Rel S b nf nc nb nd nv len) : StI g S mX9_feed mX10_feed [.int x, .int y, .int z, .int w, .int u] := by
  obtain ⟨hb, hF, hC, hK, hT, hL, hV, hM, hTm, hP⟩ := h
  have fC := feedC_fr (S := S) (n := len) (a := x) (b := y) (c := z) (d := w) (e := u)
  have fM := feedM_fr (S := (feedC len x y z w u S).2) (n := len) (a := x) (b := y) (c := z) (d := w) (e := u)
  have f := Fr.un fM fC
  have e := f.fi
  obtain ⟨s1, n, s3⟩ := s_feed (a := x) (b := y) (c := z) (d := w) (e := u) hT
  refine ⟨_, _, _, c_X9_feed hT.2.1 hT.1, ?_, b, nf, nc, nb, nd, nv, n, hb, hF.fi e (by decide) (by decide), hC.fi e (by decide) (by decide), hK.fi e (by decide) (by decide), s3, hL.fi e (by decide) (by decide), hV.fi e (by decide) (by decide), hM.fi e (by decide), RTm.fi hb hTm e (by decide) (by decide), hP.fr f⟩
  rw [s1]
  exact c_X10_feed ((fC.1 29 (by decide)).trans hT.2.2.1) hT.1
theorem st_end {x : Int32} (h : Rel S b nf nc nb nd nv len) : StI g S mX9_end mX10_end [.int x] := by
  obtain ⟨hb, hF, hC, hK, hT, hL, hV, hM, hTm, hP⟩ := h
  have fC := endC_fr (S := S) (a := x)
  have fM := endM_fr (S := (endC x S).2) (a := x)
  have f := Fr.un fM fC
  have e := f.fi
  obtain ⟨s1, n, s3⟩ := s_end (x := x) hT
  refine ⟨_, _, _, c_X9_end, ?_, b, nf, nc, nb, nd, nv, n, hb, hF.fi e (by decide) (by decide), hC.fi e (by decide) (by decide), hK.fi e (by decide) (by decide), s3, hL.fi e (by decide) (by decide), hV.fi e (by decide) (by decide), hM.fi e (by decide), RTm.fi hb hTm e (by decide) (by decide), hP.fr f⟩
  rw [s1]
  exact c_X10_end
theorem st_bears {x : Int32} (h : Rel S b nf nc nb nd nv len) : StI g S mX9_bears mX10_bears [.int x] := by
  obtain ⟨hb, hF, hC, hK, hT, hL, hV, hM, hTm, hP⟩ := h
  have fC := bearsC_fr (S := S) (a := x)
  have fM := bearsM_fr (S := (bearsC x S).2) (a := x)
  have f := Fr.un fM fC
  have e := f.fi
  obtain ⟨s1, s2, s3⟩ := s_bears (x := x) hL hM
  have hb0 : 0 ≤ (bearsC x S).2.1 35 := by rw [fC.1 35 (by decide), Int32.le_iff_toInt_le]; exact hL.2.2.2.2.2.2.2.2.1
  refine ⟨_, _, _, c_X9_bears, ?_, b, nf, nc, nb, nd, nv, len, hb, hF.fi e (by decide) (by decide), hC.fi e (by decide) (by decide), hK.fi e (by decide) (by decide), hT.fi e (by decide) (by decide), s3, hV.fi e (by decide) (by decide), s2, RTm.fi hb hTm e (by decide) (by decide), hP.fr f⟩
  rw [s1]
  exact c_X10_bears hb0
theorem st_drought {x y z : Int32} (h : Rel S b nf nc nb nd nv len) : StI g S mX9_drought mX10_drought [.int x, .int y, .int z] := by
  obtain ⟨hb, hF, hC, hK, hT, hL, hV, hM, hTm, hP⟩ := h
  have fC := droughtC_fr (S := S) (nd := nd) (a := x) (b := y) (c := z)
  have fM := droughtM_fr (S := (droughtC nd x y z S).2) (nd := nd) (a := x) (b := y) (c := z)
  have f := Fr.un fM fC
  have e := f.fi
  obtain ⟨s1, s2, n, s3⟩ := s_drought (a := x) (b := y) (c := z) hL hM
  refine ⟨_, _, _, c_X9_drought hL.2.1 hL.1, ?_, b, nf, nc, nb, n, nv, len, hb, hF.fi e (by decide) (by decide), hC.fi e (by decide) (by decide), hK.fi e (by decide) (by decide), hT.fi e (by decide) (by decide), s3, hV.fi e (by decide) (by decide), s2, RTm.fi hb hTm e (by decide) (by decide), hP.fr f⟩
  rw [s1]
  exact c_X10_drought ((fC.1 36 (by decide)).trans hL.2.2.1) hL.1
theorem st_visit {x y : Int32} (h : Rel S b nf nc nb nd nv len) : StI g S mX9_visit mX10_visit [.int x, .int y] := by
  obtain ⟨hb, hF, hC, hK, hT, hL, hV, hM, hTm, hP⟩ := h
  have fC := visitC_fr (S := S) (nf := nf) (nv := nv) (a := x) (b := y)
  have fM := visitM_fr (S := (visitC nf nv x y S).2) (nf := nf) (nv := nv) (a := x) (b := y)
  have f := Fr.un fM fC
  have e := f.fi
  obtain ⟨s1, s2, n, s3⟩ := s_visit (f := x) (h := y) hF hV hM
  refine ⟨_, _, _, c_X9_visit hF.2.1 hF.1 hV.2.1 hV.1, ?_, b, nf, nc, nb, nd, n, len, hb, hF.fi e (by decide) (by decide), hC.fi e (by decide) (by decide), hK.fi e (by decide) (by decide), hT.fi e (by decide) (by decide), hL.fi e (by decide) (by decide), s3, s2, RTm.fi hb hTm e (by decide) (by decide), hP.fr f⟩
  rw [s1]
  exact c_X10_visit ((fC.1 22 (by decide)).trans hF.2.2.1) hF.1 ((fC.1 37 (by decide)).trans hV.2.2.1) hV.1
theorem st_clear (h : Rel S b nf nc nb nd nv len) : StI g S mX9_clear mX10_clear [] := by
  obtain ⟨hb, hF, hC, hK, hT, hL, hV, hM, hTm, hP⟩ := h
  have f : Fr [12, 20, 37] [] [] [] (setI (th (setI S 12 0)) 37 0) S := Fr.I (by decide) (Fr.I (by decide) (Fr.I (by decide) Fr.rf))
  have e := f.fi
  obtain ⟨s1, s3⟩ := s_clear hV
  refine ⟨_, _, _, c_X9_clear, ?_, b, nf, nc, nb, nd, 0, len, hb, hF.fi e (by decide) (by decide), hC.fi e (by decide) (by decide), hK.fi e (by decide) (by decide), hT.fi e (by decide) (by decide), hL.fi e (by decide) (by decide), s3, hM.fi e (by decide), RTm.fi hb hTm e (by decide) (by decide), hP.fr f⟩
  rw [s1]
  exact c_X10_clear
theorem st_fault (h : Rel S b nf nc nb nd nv len) : StI g S mX9_fault mX10_fault [] := by
  obtain ⟨hb, hF, hC, hK, hT, hL, hV, hM, hTm, hP⟩ := h
  have f := th_fr S
  have e := f.fi
  have s1 : S.1 0 = S.1 33 := hM.2
  refine ⟨_, _, _, c_X9_fault, ?_, b, nf, nc, nb, nd, nv, len, hb, hF.fi e (by decide) (by decide), hC.fi e (by decide) (by decide), hK.fi e (by decide) (by decide), hT.fi e (by decide) (by decide), hL.fi e (by decide) (by decide), hV.fi e (by decide) (by decide), hM.fi e (by decide), RTm.fi hb hTm e (by decide) (by decide), hP.fr f⟩
  rw [s1]
  exact c_X10_fault
theorem st_status (h : Rel S b nf nc nb nd nv len) : StI g S mX9_status mX10_status [] := by
  obtain ⟨hb, hF, hC, hK, hT, hL, hV, hM, hTm, hP⟩ := h
  have f := th_fr S
  have e := f.fi
  have s1 : S.1 1 = S.1 21 := hM.1
  refine ⟨_, _, _, c_X9_status, ?_, b, nf, nc, nb, nd, nv, len, hb, hF.fi e (by decide) (by decide), hC.fi e (by decide) (by decide), hK.fi e (by decide) (by decide), hT.fi e (by decide) (by decide), hL.fi e (by decide) (by decide), hV.fi e (by decide) (by decide), hM.fi e (by decide), RTm.fi hb hTm e (by decide) (by decide), hP.fr f⟩
  rw [s1]
  exact c_X10_status
theorem st_led {x y : Int32} (h : Rel S b nf nc nb nd nv len) : StI g S mX9_led mX10_led [.int x, .int y] := by
  obtain ⟨hb, hF, hC, hK, hT, hL, hV, hM, hTm, hP⟩ := h
  have f := th_fr S
  have e := f.fi
  have s1 : ledC nb x y S = ledM nb x y S := by unfold ledC ledM; rw [hK.2.2.2.1, hK.2.2.2.2.1, hK.2.2.2.2.2.2.1]
  refine ⟨_, _, _, c_X9_led hK.2.1 hK.1, ?_, b, nf, nc, nb, nd, nv, len, hb, hF.fi e (by decide) (by decide), hC.fi e (by decide) (by decide), hK.fi e (by decide) (by decide), hT.fi e (by decide) (by decide), hL.fi e (by decide) (by decide), hV.fi e (by decide) (by decide), hM.fi e (by decide), RTm.fi hb hTm e (by decide) (by decide), hP.fr f⟩
  rw [s1]
  exact c_X10_led hK.2.2.1 hK.1
theorem cnt_eq_0 {w : Int32} (hF : RF S nf) (hC : RC S nf nc) (hK : RK S nf nb) (hT : RT S len) (hL : RLa S nd) (hV : RVi S nf nv) (hTm : RTm S 0) : countC 0 w S = countM nb w S := by
  unfold countC countM
  rw [hF.2.1, hF.2.2.1, hC.2.1, hC.2.2.1, hK.2.1, hK.2.2.1, hTm.2.2.2.2, hL.2.1, hL.2.2.1, hV.2.1, hV.2.2.1, hT.2.1, hT.2.2.1, hK.2.2.2.2.2.2.2.1]
theorem cnt_eq_1 {w : Int32} (hF : RF S nf) (hC : RC S nf nc) (hK : RK S nf nb) (hT : RT S len) (hL : RLa S nd) (hV : RVi S nf nv) (hTm : RTm S 1) : countC 1 w S = countM nb w S := by
  unfold countC countM
  rw [hF.2.1, hF.2.2.1, hC.2.1, hC.2.2.1, hK.2.1, hK.2.2.1, hTm.2.2.2.2, hL.2.1, hL.2.2.1, hV.2.1, hV.2.2.1, hT.2.1, hT.2.2.1, hK.2.2.2.2.2.2.2.1]
theorem st_count {x : Int32} (h : Rel S b nf nc nb nd nv len) : StI g S mX9_count mX10_count [.int x] := by
  obtain ⟨hb, hF, hC, hK, hT, hL, hV, hM, hTm, hP⟩ := h
  have f := th_fr S
  have e := f.fi
  match b, hb with
  | 0, hb =>
    refine ⟨_, _, _, c_X9_count_0 hP.1, ?_, 0, nf, nc, nb, nd, nv, len, hb, hF.fi e (by decide) (by decide), hC.fi e (by decide) (by decide), hK.fi e (by decide) (by decide), hT.fi e (by decide) (by decide), hL.fi e (by decide) (by decide), hV.fi e (by decide) (by decide), hM.fi e (by decide), RTm.fi hb hTm e (by decide) (by decide), hP.fr f⟩
    rw [cnt_eq_0 hF hC hK hT hL hV hTm]
    exact c_X10_count hK.2.2.1 hK.1
  | 1, hb =>
    refine ⟨_, _, _, c_X9_count_1 hP.1, ?_, 1, nf, nc, nb, nd, nv, len, hb, hF.fi e (by decide) (by decide), hC.fi e (by decide) (by decide), hK.fi e (by decide) (by decide), hT.fi e (by decide) (by decide), hL.fi e (by decide) (by decide), hV.fi e (by decide) (by decide), hM.fi e (by decide), RTm.fi hb hTm e (by decide) (by decide), hP.fr f⟩
    rw [cnt_eq_1 hF hC hK hT hL hV hTm]
    exact c_X10_count hK.2.2.1 hK.1
theorem mostC_fr {nv : Nat} {x : Int32} {S : St} : Fr liW laW [] [] (mostC nv x S).2 S := by
  unfold mostC
  repeat' split
  all_goals first
  | exact Fr.rf
  | exact wC_fr x nv S
theorem st_most {x : Int32} (h : Rel S b nf nc nb nd nv len) : StI g S mX9_most mX10_most [.int x] := by
  obtain ⟨hb, hF, hC, hK, hT, hL, hV, hM, hTm, hP⟩ := h
  have fC := mostC_fr (nv := nv) (x := x) (S := S)
  have f := most_fr nv x S
  have e := f.fi
  have s1 := s_most (p := x) hF hV
  have v1 := (vm_of (S' := (mostC nv x S).2) hF hV (fC.2.1 _ (by decide)) (fC.2.1 _ (by decide)) (fC.1 _ (by decide))).1
  refine ⟨_, _, _, c_X9_most hV.2.1 hV.1, ?_, b, nf, nc, nb, nd, nv, len, hb, hF.fi e (by decide) (by decide), hC.fi e (by decide) (by decide), hK.fi e (by decide) (by decide), hT.fi e (by decide) (by decide), hL.fi e (by decide) (by decide), hV.fi e (by decide) (by decide), hM.fi e (by decide), RTm.fi hb hTm e (by decide) (by decide), hP.fr f⟩
  rw [s1]
  exact c_X10_most v1 (most_h0 (S := th (mostC nv x S).2) v1)
theorem leastC_fr {nv : Nat} {x y : Int32} {S : St} : Fr liW laW [] [] (leastC nv x y S).2 S := by
  unfold leastC
  repeat' split
  all_goals first
  | exact Fr.rf
  | exact wC_fr x nv S
theorem st_least {x y : Int32} (h : Rel S b nf nc nb nd nv len) : StI g S mX9_least mX10_least [.int x, .int y] := by
  obtain ⟨hb, hF, hC, hK, hT, hL, hV, hM, hTm, hP⟩ := h
  have fC := leastC_fr (nv := nv) (x := x) (y := y) (S := S)
  have f := least_fr nv x y S
  have e := f.fi
  have s1 := s_least (p := x) (n := y) hF hV
  have v1 := (vm_of (S' := (leastC nv x y S).2) hF hV (fC.2.1 _ (by decide)) (fC.2.1 _ (by decide)) (fC.1 _ (by decide))).1
  refine ⟨_, _, _, c_X9_least hV.2.1 hV.1, ?_, b, nf, nc, nb, nd, nv, len, hb, hF.fi e (by decide) (by decide), hC.fi e (by decide) (by decide), hK.fi e (by decide) (by decide), hT.fi e (by decide) (by decide), hL.fi e (by decide) (by decide), hV.fi e (by decide) (by decide), hM.fi e (by decide), RTm.fi hb hTm e (by decide) (by decide), hP.fr f⟩
  rw [s1]
  exact c_X10_least v1
theorem eqB.fr {X S : St} (h : eqB X S) : Fi [] [] X S ∧ ∀ n, X.2.2.2.2 n = S.2.2.2.2 n := ⟨⟨fun n _ => congrFun h.1 n, fun n _ => congrFun h.2.1 n⟩, fun n => congrFun h.2.2 n⟩
theorem bs_of (hF : RF S nf) (hC : RC S nf nc) (hK : RK S nf nb) : Bs S nf nc nb := by
  have h40 := hF.1
  refine ⟨hF.2.1, hF.1, hC.2.1, hC.1, hK.2.1, hK.1, fun k hk => ?_, fun k hk => ?_, fun k hk => ?_⟩
  · rw [hC.2.2.2.1]
    obtain ⟨⟨i, hi, ei⟩, -⟩ := hC.2.2.2.2.2.2 k hk
    rw [ei]
    exact vp_in_nI (by omega) (by decide)
  · rw [hK.2.2.2.1]
    obtain ⟨⟨i, hi, ei⟩, -⟩ := hK.2.2.2.2.2.2.2.2 k hk
    rw [ei]
    exact vp_in_nI (by omega) (by decide)
  · rw [hK.2.2.2.2.2.1]
    obtain ⟨-, -, r1, r2⟩ := hK.2.2.2.2.2.2.2.2 k hk
    exact vp_in_iff.mpr ⟨r1, by omega⟩
theorem bm_of {T : St} (hF : RF S nf) (hC : RC S nf nc) (hK : RK S nf nb) (hTm : RTm S b) (e : Fi [] [] T S) : Bm T nf nc nb := by
  have h40 := hF.1
  refine ⟨(e.1 _ (by decide)).trans hF.2.2.1, hF.1, (e.1 _ (by decide)).trans hC.2.2.1, hC.1, (e.1 _ (by decide)).trans hK.2.2.1, hK.1, fun k hk => ?_, fun k hk => ?_, fun k hk => ?_, fun k hk => ?_⟩
  · rw [e.2 _ (by decide)]
    obtain ⟨⟨i, hi, ei⟩, -⟩ := hC.2.2.2.2.2.2 k hk
    rw [ei]
    exact vp_in_nI (by omega) (by decide)
  · rw [e.2 _ (by decide)]
    obtain ⟨⟨i, hi, ei⟩, -⟩ := hK.2.2.2.2.2.2.2.2 k hk
    rw [ei]
    exact vp_in_nI (by omega) (by decide)
  · rw [e.2 _ (by decide)]
    obtain ⟨-, -, r1, r2⟩ := hK.2.2.2.2.2.2.2.2 k hk
    exact vp_in_iff.mpr ⟨r1, by omega⟩
  · rw [e.2 _ (by decide), Int32.le_iff_toInt_le]
    exact (hTm.2.1 k hk).2.2.2.2.1
theorem st_of_0 {x y z : Int32} (h : Rel S 0 nf nc nb nd nv len) : StJ g S mX9_of mX10_of [.int x, .int y, .int z] := by
  obtain ⟨hb, hF, hC, hK, hT, hL, hV, hM, hTm, hP⟩ := h
  obtain ⟨s1, s2, s3⟩ := s_of (f := x) (day := y) (w := z) hF hC hK hL hTm
  obtain ⟨q1, q2⟩ := s2.fr
  obtain ⟨r1, r2⟩ := s3.fr
  have e : Fi [20] [] (ofM nf nc nb nd x y z (ofC 0 nf nc nb nd x y z S).2).2 S := ⟨fun n hn => ((r1.1 n List.not_mem_nil).trans ((th_fr _).1 n hn)).trans (q1.1 n List.not_mem_nil), fun n hn => ((r1.2 n List.not_mem_nil).trans ((th_fr _).2.1 n hn)).trans (q1.2 n List.not_mem_nil)⟩
  have hY : (th (ofC 0 nf nc nb nd x y z S).2).2.1 = S.2.1 := s2.2.1
  have hY1 : (th (ofC 0 nf nc nb nd x y z S).2).1 26 = S.1 26 := ((th_fr _).1 _ (by decide)).trans (q1.1 _ List.not_mem_nil)
  refine ⟨_, _, _, c_X9_of_0 (bs_of hF hC hK) hL.2.1 hL.1 hP.1, ?_, 0, nf, nc, nb, nd, nv, len, hb, hF.fi e (by decide) (by decide), hC.fi e (by decide) (by decide), hK.fi e (by decide) (by decide), hT.fi e (by decide) (by decide), hL.fi e (by decide) (by decide), hV.fi e (by decide) (by decide), hM.fi e (by decide), RTm.fi hb hTm e (by decide) (by decide), ?_⟩
  · rw [s1]
    exact c_X10_of (bm_of hF hC hK hTm q1) ((q1.1 _ List.not_mem_nil).trans hL.2.2.1) hL.1 (can_lt hF hC hK hTm hY hY1)
  · exact ⟨((r2 0).trans (((th_fr _).2.2.2.2 0 (by decide)).trans (q2 0))).trans hP.1, ((r2 1).trans (((th_fr _).2.2.2.2 1 (by decide)).trans (q2 1))).trans hP.2⟩
theorem st_of_1 {x y z : Int32} (h : Rel S 1 nf nc nb nd nv len) : StJ g S mX9_of mX10_of [.int x, .int y, .int z] := by
  obtain ⟨hb, hF, hC, hK, hT, hL, hV, hM, hTm, hP⟩ := h
  obtain ⟨s1, s2, s3⟩ := s_of (f := x) (day := y) (w := z) hF hC hK hL hTm
  obtain ⟨q1, q2⟩ := s2.fr
  obtain ⟨r1, r2⟩ := s3.fr
  have e : Fi [20] [] (ofM nf nc nb nd x y z (ofC 1 nf nc nb nd x y z S).2).2 S := ⟨fun n hn => ((r1.1 n List.not_mem_nil).trans ((th_fr _).1 n hn)).trans (q1.1 n List.not_mem_nil), fun n hn => ((r1.2 n List.not_mem_nil).trans ((th_fr _).2.1 n hn)).trans (q1.2 n List.not_mem_nil)⟩
  have hY : (th (ofC 1 nf nc nb nd x y z S).2).2.1 = S.2.1 := s2.2.1
  have hY1 : (th (ofC 1 nf nc nb nd x y z S).2).1 26 = S.1 26 := ((th_fr _).1 _ (by decide)).trans (q1.1 _ List.not_mem_nil)
  refine ⟨_, _, _, c_X9_of_1 (bs_of hF hC hK) hL.2.1 hL.1 hP.1, ?_, 1, nf, nc, nb, nd, nv, len, hb, hF.fi e (by decide) (by decide), hC.fi e (by decide) (by decide), hK.fi e (by decide) (by decide), hT.fi e (by decide) (by decide), hL.fi e (by decide) (by decide), hV.fi e (by decide) (by decide), hM.fi e (by decide), RTm.fi hb hTm e (by decide) (by decide), ?_⟩
  · rw [s1]
    exact c_X10_of (bm_of hF hC hK hTm q1) ((q1.1 _ List.not_mem_nil).trans hL.2.2.1) hL.1 (can_lt hF hC hK hTm hY hY1)
  · exact ⟨((r2 0).trans (((th_fr _).2.2.2.2 0 (by decide)).trans (q2 0))).trans hP.1, ((r2 1).trans (((th_fr _).2.2.2.2 1 (by decide)).trans (q2 1))).trans hP.2⟩
theorem st_of {x y z : Int32} (h : Rel S b nf nc nb nd nv len) : StJ g S mX9_of mX10_of [.int x, .int y, .int z] := by
  match b, h.1 with
  | 0, _ => exact st_of_0 h
  | 1, _ => exact st_of_1 h
theorem st_group_0 {x y z : Int32} (h : Rel S 0 nf nc nb nd nv len) : StJ g S mX9_group mX10_group [.int x, .int y, .int z] := by
  obtain ⟨hb, hF, hC, hK, hT, hL, hV, hM, hTm, hP⟩ := h
  obtain ⟨s1, s2, s3⟩ := s_group (gr := x) (day := y) (w := z) hF hC hK hTm
  obtain ⟨q1, q2⟩ := s2.fr
  obtain ⟨r1, r2⟩ := s3.fr
  have e : Fi [20] [] (groupM nf nc nb x y z (groupC 0 nf nc nb x y z S).2).2 S := ⟨fun n hn => ((r1.1 n List.not_mem_nil).trans ((th_fr _).1 n hn)).trans (q1.1 n List.not_mem_nil), fun n hn => ((r1.2 n List.not_mem_nil).trans ((th_fr _).2.1 n hn)).trans (q1.2 n List.not_mem_nil)⟩
  have hY : (th (groupC 0 nf nc nb x y z S).2).2.1 = S.2.1 := s2.2.1
  have hY1 : (th (groupC 0 nf nc nb x y z S).2).1 26 = S.1 26 := ((th_fr _).1 _ (by decide)).trans (q1.1 _ List.not_mem_nil)
  refine ⟨_, _, _, c_X9_group_0 (bs_of hF hC hK) hP.1, ?_, 0, nf, nc, nb, nd, nv, len, hb, hF.fi e (by decide) (by decide), hC.fi e (by decide) (by decide), hK.fi e (by decide) (by decide), hT.fi e (by decide) (by decide), hL.fi e (by decide) (by decide), hV.fi e (by decide) (by decide), hM.fi e (by decide), RTm.fi hb hTm e (by decide) (by decide), ?_⟩
  · rw [s1]
    exact c_X10_group (bm_of hF hC hK hTm q1) (can_lt hF hC hK hTm hY hY1)
  · exact ⟨((r2 0).trans (((th_fr _).2.2.2.2 0 (by decide)).trans (q2 0))).trans hP.1, ((r2 1).trans (((th_fr _).2.2.2.2 1 (by decide)).trans (q2 1))).trans hP.2⟩
theorem st_group_1 {x y z : Int32} (h : Rel S 1 nf nc nb nd nv len) : StJ g S mX9_group mX10_group [.int x, .int y, .int z] := by
  obtain ⟨hb, hF, hC, hK, hT, hL, hV, hM, hTm, hP⟩ := h
  obtain ⟨s1, s2, s3⟩ := s_group (gr := x) (day := y) (w := z) hF hC hK hTm
  obtain ⟨q1, q2⟩ := s2.fr
  obtain ⟨r1, r2⟩ := s3.fr
  have e : Fi [20] [] (groupM nf nc nb x y z (groupC 1 nf nc nb x y z S).2).2 S := ⟨fun n hn => ((r1.1 n List.not_mem_nil).trans ((th_fr _).1 n hn)).trans (q1.1 n List.not_mem_nil), fun n hn => ((r1.2 n List.not_mem_nil).trans ((th_fr _).2.1 n hn)).trans (q1.2 n List.not_mem_nil)⟩
  have hY : (th (groupC 1 nf nc nb x y z S).2).2.1 = S.2.1 := s2.2.1
  have hY1 : (th (groupC 1 nf nc nb x y z S).2).1 26 = S.1 26 := ((th_fr _).1 _ (by decide)).trans (q1.1 _ List.not_mem_nil)
  refine ⟨_, _, _, c_X9_group_1 (bs_of hF hC hK) hP.1, ?_, 1, nf, nc, nb, nd, nv, len, hb, hF.fi e (by decide) (by decide), hC.fi e (by decide) (by decide), hK.fi e (by decide) (by decide), hT.fi e (by decide) (by decide), hL.fi e (by decide) (by decide), hV.fi e (by decide) (by decide), hM.fi e (by decide), RTm.fi hb hTm e (by decide) (by decide), ?_⟩
  · rw [s1]
    exact c_X10_group (bm_of hF hC hK hTm q1) (can_lt hF hC hK hTm hY hY1)
  · exact ⟨((r2 0).trans (((th_fr _).2.2.2.2 0 (by decide)).trans (q2 0))).trans hP.1, ((r2 1).trans (((th_fr _).2.2.2.2 1 (by decide)).trans (q2 1))).trans hP.2⟩
theorem st_group {x y z : Int32} (h : Rel S b nf nc nb nd nv len) : StJ g S mX9_group mX10_group [.int x, .int y, .int z] := by
  match b, h.1 with
  | 0, _ => exact st_group_0 h
  | 1, _ => exact st_group_1 h
theorem st_contract_0 (h : Rel S 0 nf nc nb nd nv len) : StI g S mX9_contract mX10_contract [] := by
  obtain ⟨hb, hF, hC, hK, hT, hL, hV, hM, hTm, hP⟩ := h
  obtain ⟨i1, i2, i3, i4⟩ := contractC_I_1 (S := S)
  have fM := contractM_fr (S := (contractC 0 1 S).2)
  have e : Fi (liC_1 ++ liK) (laR_1 ++ laK) (contractM (contractC 0 1 S).2).2 S := ⟨fun n hn => by
    rw [List.mem_append, not_or] at hn
    exact (fM.1 n hn.2).trans (i1 n hn.1), fun n hn => by
    rw [List.mem_append, not_or] at hn
    exact (fM.2.1 n hn.2).trans (i2 n hn.1)⟩
  obtain ⟨s1, s2, s3, s4⟩ := s_contract_0 hT hTm hP
  have hx : RelE (contractM (contractC 0 1 S).2).2 := by
    rcases s4 with ⟨k1, k2⟩ | ⟨k1, k2⟩
    · exact ⟨1, nf, nc, nb, nd, nv, 0, by decide, hF.fi e (by decide) (by decide), hC.fi e (by decide) (by decide), hK.fi e (by decide) (by decide), s3, hL.fi e (by decide) (by decide), hV.fi e (by decide) (by decide), s2, k1, k2⟩
    · exact ⟨0, nf, nc, nb, nd, nv, 0, by decide, hF.fi e (by decide) (by decide), hC.fi e (by decide) (by decide), hK.fi e (by decide) (by decide), s3, hL.fi e (by decide) (by decide), hV.fi e (by decide) (by decide), s2, k1, k2⟩
  refine ⟨_, _, _, c_X9_contract_0 hT.2.1 hT.1 hP.1 hP.2, ?_, hx⟩
  rw [s1]
  exact c_X10_contract ((i1 _ (by decide)).trans hT.2.2.1) hT.1
theorem st_contract_1 (h : Rel S 1 nf nc nb nd nv len) : StI g S mX9_contract mX10_contract [] := by
  obtain ⟨hb, hF, hC, hK, hT, hL, hV, hM, hTm, hP⟩ := h
  obtain ⟨i1, i2, i3, i4⟩ := contractC_I_0 (S := S)
  have fM := contractM_fr (S := (contractC 1 0 S).2)
  have e : Fi (liC_0 ++ liK) (laR_0 ++ laK) (contractM (contractC 1 0 S).2).2 S := ⟨fun n hn => by
    rw [List.mem_append, not_or] at hn
    exact (fM.1 n hn.2).trans (i1 n hn.1), fun n hn => by
    rw [List.mem_append, not_or] at hn
    exact (fM.2.1 n hn.2).trans (i2 n hn.1)⟩
  obtain ⟨s1, s2, s3, s4⟩ := s_contract_1 hT hTm hP
  have hx : RelE (contractM (contractC 1 0 S).2).2 := by
    rcases s4 with ⟨k1, k2⟩ | ⟨k1, k2⟩
    · exact ⟨0, nf, nc, nb, nd, nv, 0, by decide, hF.fi e (by decide) (by decide), hC.fi e (by decide) (by decide), hK.fi e (by decide) (by decide), s3, hL.fi e (by decide) (by decide), hV.fi e (by decide) (by decide), s2, k1, k2⟩
    · exact ⟨1, nf, nc, nb, nd, nv, 0, by decide, hF.fi e (by decide) (by decide), hC.fi e (by decide) (by decide), hK.fi e (by decide) (by decide), s3, hL.fi e (by decide) (by decide), hV.fi e (by decide) (by decide), s2, k1, k2⟩
  refine ⟨_, _, _, c_X9_contract_1 hT.2.1 hT.1 hP.1 hP.2, ?_, hx⟩
  rw [s1]
  exact c_X10_contract ((i1 _ (by decide)).trans hT.2.2.1) hT.1
theorem st_contract (h : Rel S b nf nc nb nd nv len) : StI g S mX9_contract mX10_contract [] := by
  match b, h.1 with
  | 0, _ => exact st_contract_0 h
  | 1, _ => exact st_contract_1 h
end STP
