section CNT
def RTm (S : St) (b : Nat) : Prop := (∀ k, k < 5 → S.2.1 (18 + b) k = S.2.1 34 k ∧ rng 0 10000 (S.2.1 34 k)) ∧ (∀ k, k < 4 → S.2.1 (20 + b) k = S.2.1 35 k ∧ S.2.1 (22 + b) k = S.2.1 36 k ∧ 0 ≤ (S.2.1 35 k).toInt ∧ (S.2.1 35 k).toInt ≤ (S.2.1 36 k).toInt ∧ rng 1 10000 (S.2.1 36 k)) ∧ S.1 (16 + b) = S.1 26 ∧ rng (-1) 10000 (S.1 26) ∧ S.1 (18 + b) = S.1 25
def RP (S : St) (b : Nat) : Prop := S.2.2.2.2 0 = 35 + 4 * b ∧ S.2.2.2.2 1 = 35 + 4 * (1 - b)
theorem np_at : ∀ (n : Nat) (X : St) (k : Nat), k < n → (it npB n X).2.1 37 k = 0
  | 0, _, k, h => absurd h (by omega)
  | n + 1, X, k, h => by
    rw [it_s]
    show upd ((it npB n X).2.1 37) n 0 k = 0
    rcases lt_split h with h | rfl
    · rw [upd_ne (by omega)]
      exact np_at n X k h
    · exact upd_eq
theorem nab_at : ∀ (n : Nat) (X : St) (k : Nat), k < n → (it nabB n X).2.1 38 k = (if 2 ≤ k then 0 else 1) ∧ (it nabB n X).2.1 39 k = 1
  | 0, _, k, h => absurd h (by omega)
  | n + 1, X, k, h => by
    rw [it_s]
    show upd ((it nabB n X).2.1 38) n (if 2 ≤ n then 0 else 1) k = _ ∧ upd ((it nabB n X).2.1 39) n 1 k = 1
    rcases lt_split h with h | rfl
    · rw [upd_ne (by omega), upd_ne (by omega)]
      exact nab_at n X k h
    · rw [upd_eq, upd_eq]
      exact ⟨rfl, rfl⟩
theorem cp_at : ∀ (n : Nat) (X : St) (k : Nat), k < n → (it cpP n X).2.1 34 k = X.2.1 37 k ∧ (it cpP n X).2.1 37 = X.2.1 37
  | 0, _, k, h => absurd h (by omega)
  | n + 1, X, k, h => by
    have hN : (it cpP n X).2.1 37 = X.2.1 37 := (Fr.it (li := []) (la := [34]) (ll := []) (lb := []) (S := X) (fun k Y h => Fr.A (by decide) h) n X Fr.rf).2.1 _ (by decide)
    rw [it_s]
    show upd ((it cpP n X).2.1 34) n ((it cpP n X).2.1 37 n) k = _ ∧ (it cpP n X).2.1 37 = _
    refine ⟨?_, hN⟩
    rcases lt_split h with h | rfl
    · rw [upd_ne (by omega)]
      exact (cp_at n X k h).1
    · rw [upd_eq, hN]
theorem cpab_at : ∀ (n : Nat) (X : St) (k : Nat), k < n → (it cpAB n X).2.1 35 k = X.2.1 38 k ∧ (it cpAB n X).2.1 36 k = X.2.1 39 k
  | 0, _, k, h => absurd h (by omega)
  | n + 1, X, k, h => by
    have hF := Fr.it (li := []) (la := [35, 36]) (ll := []) (lb := []) (S := X) (f := cpAB) (fun k Y h => Fr.A (by decide) (Fr.A (by decide) h)) n X Fr.rf
    have hA : (it cpAB n X).2.1 38 = X.2.1 38 := hF.2.1 _ (by decide)
    have hB : (it cpAB n X).2.1 39 = X.2.1 39 := hF.2.1 _ (by decide)
    rw [it_s]
    show upd ((it cpAB n X).2.1 35) n ((it cpAB n X).2.1 38 n) k = _ ∧ upd ((it cpAB n X).2.1 36) n ((it cpAB n X).2.1 39 n) k = _
    rcases lt_split h with h | rfl
    · rw [upd_ne (by omega), upd_ne (by omega)]
      exact cpab_at n X k h
    · rw [upd_eq, upd_eq, hA, hB]
      exact ⟨rfl, rfl⟩
theorem fill_at {n k : Nat} {x : Int32} {f : Nat → Int32} (h : k < n) : fillF n x f k = x := by unfold fillF; rw [if_pos h]
theorem rd0_T_0 {S : St} : (∀ k, k < 5 → (rd0 0 S).2.1 (18 + 0) k = 0) ∧ (∀ k, k < 4 → (rd0 0 S).2.1 (20 + 0) k = (if 2 ≤ k then 0 else 1) ∧ (rd0 0 S).2.1 (22 + 0) k = 1) ∧ (rd0 0 S).1 (16 + 0) = -1 ∧ (rd0 0 S).1 (18 + 0) = 0 := by
  refine ⟨?_, ?_, rfl, rfl⟩
  · intro k hk
    show fillF 5 0 (S.2.1 (18 + 0)) k = 0
    exact fill_at hk
  · intro k hk
    show upd (upd (upd (upd (S.2.1 (20 + 0)) 0 1) 1 1) 2 0) 3 0 k = _ ∧ upd (upd (upd (upd (S.2.1 (22 + 0)) 0 1) 1 1) 2 1) 3 1 k = _
    match k, hk with
    | 0, _ => exact ⟨rfl, rfl⟩
    | 1, _ => exact ⟨rfl, rfl⟩
    | 2, _ => exact ⟨rfl, rfl⟩
    | 3, _ => exact ⟨rfl, rfl⟩
theorem rd_start_0 {S S1 : St} {len : Nat} (h : RT S len) (hF : S1.1 29 = S.1 29) (hA : S1.2.1 40 = S.2.1 40) : (∃ st, Tok (S.2.1 40) len st (rd0 0 S) (cn1 S1)) ∧ Dr 0 0 0 (rd0 0 S) (cn1 S1) ∧ (cn1 S1).1 34 = 0 ∧ (cn1 S1).1 33 = -1 := by
  obtain ⟨h1, h2, h3, h4⟩ := h
  have f1 : Fr [] laM [] [] (it nabB 4 (it npB 5 (cn0 S1))) (cn0 S1) := Fr.it (fun k Y h => Fr.A (by decide) (Fr.A (by decide) h)) 4 _ (Fr.it (fun k Y h => Fr.A (by decide) h) 5 _ Fr.rf)
  have f2 : Fr [] [38, 39] [] [] (it nabB 4 (it npB 5 (cn0 S1))) (it npB 5 (cn0 S1)) := Fr.it (fun k Y h => Fr.A (by decide) (Fr.A (by decide) h)) 4 _ Fr.rf
  obtain ⟨t1, t2, t3, t4⟩ := rd0_T_0 (S := S)
  have n1 := nab_at 4 (it npB 5 (cn0 S1))
  have n2 := np_at 5 (cn0 S1)
  unfold cn1
  generalize it nabB 4 (it npB 5 (cn0 S1)) = Z at f1 f2 n1
  have zt : Z.2.1 40 = S.2.1 40 := (f1.2.1 _ (by decide)).trans hA
  have zl : Z.1 29 = nI len := ((f1.1 29 (by decide)).trans hF).trans h3
  have z0 : Z.1 31 = nI 0 := (f1.1 31 (by decide)).trans nI_0.symm
  have zb : Z.1 34 = 0 := f1.1 34 (by decide)
  have zf : Z.1 33 = -1 := f1.1 33 (by decide)
  have zm : Z.1 27 = 0 := f1.1 27 (by decide)
  have zq : Z.1 28 = -1 := f1.1 28 (by decide)
  refine ⟨⟨_, Tok.next h1 (Nat.zero_le _) (show S.2.1 10 = _ from h4) zt h2 zl nI_0.symm z0⟩, ⟨?_, ?_, ?_, ?_, ?_, ?_⟩, zb, zf⟩
  · intro k hk
    rw [t1 k hk]
    show (0 : Int32) = Z.2.1 37 k ∧ rng 0 10000 (Z.2.1 37 k)
    rw [f2.2.1 37 (by decide), n2 k hk]
    exact ⟨rfl, by unfold rng; decide⟩
  · intro k hk
    rw [(t2 k hk).1, (t2 k hk).2]
    show _ = Z.2.1 38 k ∧ (1 : Int32) = Z.2.1 39 k ∧ 0 ≤ (Z.2.1 38 k).toInt ∧ (Z.2.1 38 k).toInt ≤ (Z.2.1 39 k).toInt ∧ rng 1 10000 (Z.2.1 39 k)
    rw [(n1 k hk).1, (n1 k hk).2]
    refine ⟨rfl, rfl, ?_⟩
    split <;> (unfold rng; decide)
  · rw [t3]
    exact zq.symm
  · show rng (-1) 10000 (Z.1 28)
    rw [zq]
    unfold rng
    decide
  · rw [t4]
    exact nI_0.symm
  · exact zm.trans nI_0.symm
theorem rd_all_0 {S S1 : St} {len : Nat} (h : RT S len) (hF : S1.1 29 = S.1 29) (hA : S1.2.1 40 = S.2.1 40) : ((readS 0 S).1 = -1 ∧ (if (cn1 S1).1 32 = 0 then cn1 S1 else cn2 (rcL 20 (clM (cn1 S1)))).1 34 = 0 ∧ (∃ m, m ≤ 20 ∧ Dr 0 m m (readS 0 S).2 (if (cn1 S1).1 32 = 0 then cn1 S1 else cn2 (rcL 20 (clM (cn1 S1))))) ∧ (if (cn1 S1).1 32 = 0 then cn1 S1 else cn2 (rcL 20 (clM (cn1 S1)))).1 33 = -1) ∨ (¬ (readS 0 S).1 = -1 ∧ ¬ (if (cn1 S1).1 32 = 0 then cn1 S1 else cn2 (rcL 20 (clM (cn1 S1)))).1 34 = 0 ∧ (if (cn1 S1).1 32 = 0 then cn1 S1 else cn2 (rcL 20 (clM (cn1 S1)))).1 33 = (readS 0 S).1) := by
  obtain ⟨⟨st, hT⟩, hD, hb, hf⟩ := rd_start_0 h hF hA
  unfold readS
  generalize cn1 S1 = M at *
  generalize rd0 0 S = C at *
  have k1 := hT.2.2.2.2.2.2.2.2.1
  have k2 := hT.2.2.2.2.2.2.2.2.2.1
  by_cases k0 : kindF (S.2.1 40) len st = 0
  · rw [if_pos (k1.trans k0), if_pos (k2.trans k0)]
    exact Or.inl ⟨rfl, hb, ⟨0, by omega, hD⟩, hf⟩
  · rw [if_neg (by rw [k1]; exact k0), if_neg (by rw [k2]; exact k0)]
    have hx := rd_rc_0 20 0 st C M (by omega) hT hD hb
    unfold EnP at hx
    rw [hf] at hx
    exact hx
theorem rd0_T_1 {S : St} : (∀ k, k < 5 → (rd0 1 S).2.1 (18 + 1) k = 0) ∧ (∀ k, k < 4 → (rd0 1 S).2.1 (20 + 1) k = (if 2 ≤ k then 0 else 1) ∧ (rd0 1 S).2.1 (22 + 1) k = 1) ∧ (rd0 1 S).1 (16 + 1) = -1 ∧ (rd0 1 S).1 (18 + 1) = 0 := by
  refine ⟨?_, ?_, rfl, rfl⟩
  · intro k hk
    show fillF 5 0 (S.2.1 (18 + 1)) k = 0
    exact fill_at hk
  · intro k hk
    show upd (upd (upd (upd (S.2.1 (20 + 1)) 0 1) 1 1) 2 0) 3 0 k = _ ∧ upd (upd (upd (upd (S.2.1 (22 + 1)) 0 1) 1 1) 2 1) 3 1 k = _
    match k, hk with
    | 0, _ => exact ⟨rfl, rfl⟩
    | 1, _ => exact ⟨rfl, rfl⟩
    | 2, _ => exact ⟨rfl, rfl⟩
    | 3, _ => exact ⟨rfl, rfl⟩
theorem rd_start_1 {S S1 : St} {len : Nat} (h : RT S len) (hF : S1.1 29 = S.1 29) (hA : S1.2.1 40 = S.2.1 40) : (∃ st, Tok (S.2.1 40) len st (rd0 1 S) (cn1 S1)) ∧ Dr 1 0 0 (rd0 1 S) (cn1 S1) ∧ (cn1 S1).1 34 = 0 ∧ (cn1 S1).1 33 = -1 := by
  obtain ⟨h1, h2, h3, h4⟩ := h
  have f1 : Fr [] laM [] [] (it nabB 4 (it npB 5 (cn0 S1))) (cn0 S1) := Fr.it (fun k Y h => Fr.A (by decide) (Fr.A (by decide) h)) 4 _ (Fr.it (fun k Y h => Fr.A (by decide) h) 5 _ Fr.rf)
  have f2 : Fr [] [38, 39] [] [] (it nabB 4 (it npB 5 (cn0 S1))) (it npB 5 (cn0 S1)) := Fr.it (fun k Y h => Fr.A (by decide) (Fr.A (by decide) h)) 4 _ Fr.rf
  obtain ⟨t1, t2, t3, t4⟩ := rd0_T_1 (S := S)
  have n1 := nab_at 4 (it npB 5 (cn0 S1))
  have n2 := np_at 5 (cn0 S1)
  unfold cn1
  generalize it nabB 4 (it npB 5 (cn0 S1)) = Z at f1 f2 n1
  have zt : Z.2.1 40 = S.2.1 40 := (f1.2.1 _ (by decide)).trans hA
  have zl : Z.1 29 = nI len := ((f1.1 29 (by decide)).trans hF).trans h3
  have z0 : Z.1 31 = nI 0 := (f1.1 31 (by decide)).trans nI_0.symm
  have zb : Z.1 34 = 0 := f1.1 34 (by decide)
  have zf : Z.1 33 = -1 := f1.1 33 (by decide)
  have zm : Z.1 27 = 0 := f1.1 27 (by decide)
  have zq : Z.1 28 = -1 := f1.1 28 (by decide)
  refine ⟨⟨_, Tok.next h1 (Nat.zero_le _) (show S.2.1 10 = _ from h4) zt h2 zl nI_0.symm z0⟩, ⟨?_, ?_, ?_, ?_, ?_, ?_⟩, zb, zf⟩
  · intro k hk
    rw [t1 k hk]
    show (0 : Int32) = Z.2.1 37 k ∧ rng 0 10000 (Z.2.1 37 k)
    rw [f2.2.1 37 (by decide), n2 k hk]
    exact ⟨rfl, by unfold rng; decide⟩
  · intro k hk
    rw [(t2 k hk).1, (t2 k hk).2]
    show _ = Z.2.1 38 k ∧ (1 : Int32) = Z.2.1 39 k ∧ 0 ≤ (Z.2.1 38 k).toInt ∧ (Z.2.1 38 k).toInt ≤ (Z.2.1 39 k).toInt ∧ rng 1 10000 (Z.2.1 39 k)
    rw [(n1 k hk).1, (n1 k hk).2]
    refine ⟨rfl, rfl, ?_⟩
    split <;> (unfold rng; decide)
  · rw [t3]
    exact zq.symm
  · show rng (-1) 10000 (Z.1 28)
    rw [zq]
    unfold rng
    decide
  · rw [t4]
    exact nI_0.symm
  · exact zm.trans nI_0.symm
theorem rd_all_1 {S S1 : St} {len : Nat} (h : RT S len) (hF : S1.1 29 = S.1 29) (hA : S1.2.1 40 = S.2.1 40) : ((readS 1 S).1 = -1 ∧ (if (cn1 S1).1 32 = 0 then cn1 S1 else cn2 (rcL 20 (clM (cn1 S1)))).1 34 = 0 ∧ (∃ m, m ≤ 20 ∧ Dr 1 m m (readS 1 S).2 (if (cn1 S1).1 32 = 0 then cn1 S1 else cn2 (rcL 20 (clM (cn1 S1))))) ∧ (if (cn1 S1).1 32 = 0 then cn1 S1 else cn2 (rcL 20 (clM (cn1 S1)))).1 33 = -1) ∨ (¬ (readS 1 S).1 = -1 ∧ ¬ (if (cn1 S1).1 32 = 0 then cn1 S1 else cn2 (rcL 20 (clM (cn1 S1)))).1 34 = 0 ∧ (if (cn1 S1).1 32 = 0 then cn1 S1 else cn2 (rcL 20 (clM (cn1 S1)))).1 33 = (readS 1 S).1) := by
  obtain ⟨⟨st, hT⟩, hD, hb, hf⟩ := rd_start_1 h hF hA
  unfold readS
  generalize cn1 S1 = M at *
  generalize rd0 1 S = C at *
  have k1 := hT.2.2.2.2.2.2.2.2.1
  have k2 := hT.2.2.2.2.2.2.2.2.2.1
  by_cases k0 : kindF (S.2.1 40) len st = 0
  · rw [if_pos (k1.trans k0), if_pos (k2.trans k0)]
    exact Or.inl ⟨rfl, hb, ⟨0, by omega, hD⟩, hf⟩
  · rw [if_neg (by rw [k1]; exact k0), if_neg (by rw [k2]; exact k0)]
    have hx := rd_rc_1 20 0 st C M (by omega) hT hD hb
    unfold EnP at hx
    rw [hf] at hx
    exact hx
end CNT
