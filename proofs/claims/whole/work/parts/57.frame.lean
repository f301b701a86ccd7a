section FRM
def Fr (li la ll lb : List Nat) (X S : St) : Prop := (∀ n, n ∉ li → X.1 n = S.1 n) ∧ (∀ n, n ∉ la → X.2.1 n = S.2.1 n) ∧ (∀ n, n ∉ ll → X.2.2.1 n = S.2.2.1 n) ∧ (∀ n, n ∉ lb → X.2.2.2.1 n = S.2.2.2.1 n) ∧ (∀ n, n < 2 → X.2.2.2.2 n = S.2.2.2.2 n)
section
variable {li la ll lb : List Nat} {X Y S : St}
theorem Fr.rf : Fr li la ll lb S S := ⟨fun _ _ => rfl, fun _ _ => rfl, fun _ _ => rfl, fun _ _ => rfl, fun _ _ => rfl⟩
theorem Fr.tr (h : Fr li la ll lb X Y) (k : Fr li la ll lb Y S) : Fr li la ll lb X S := ⟨fun n hn => (h.1 n hn).trans (k.1 n hn), fun n hn => (h.2.1 n hn).trans (k.2.1 n hn), fun n hn => (h.2.2.1 n hn).trans (k.2.2.1 n hn), fun n hn => (h.2.2.2.1 n hn).trans (k.2.2.2.1 n hn), fun n hn => (h.2.2.2.2 n hn).trans (k.2.2.2.2 n hn)⟩
theorem up_ne {α : Type} {f : Nat → α} {n k : Nat} {x : α} (h : n ≠ k) : va_up f k x n = f n := by unfold va_up; rw [if_neg h]
theorem mem_ne {l : List Nat} {n k : Nat} (hk : k ∈ l) (hn : n ∉ l) : n ≠ k := fun e => hn (e ▸ hk)
theorem Fr.I {k : Nat} {x : Int32} (hk : k ∈ li) (h : Fr li la ll lb X S) : Fr li la ll lb (setI X k x) S := ⟨fun n hn => (up_ne (mem_ne hk hn)).trans (h.1 n hn), h.2⟩
theorem Fr.A {k : Nat} {x : Nat → Int32} (hk : k ∈ la) (h : Fr li la ll lb X S) : Fr li la ll lb (setA X k x) S := ⟨h.1, fun n hn => (up_ne (mem_ne hk hn)).trans (h.2.1 n hn), h.2.2⟩
theorem Fr.L {k : Nat} {x : Int64} (hk : k ∈ ll) (h : Fr li la ll lb X S) : Fr li la ll lb (setL X k x) S := ⟨h.1, h.2.1, fun n hn => (up_ne (mem_ne hk hn)).trans (h.2.2.1 n hn), h.2.2.2⟩
theorem Fr.B {k : Nat} {x : Nat → Int64} (hk : k ∈ lb) (h : Fr li la ll lb X S) : Fr li la ll lb (setB X k x) S := ⟨h.1, h.2.1, h.2.2.1, fun n hn => (up_ne (mem_ne hk hn)).trans (h.2.2.2.1 n hn), h.2.2.2.2⟩
theorem Fr.P {k q : Nat} (hk : 2 ≤ k) (h : Fr li la ll lb X S) : Fr li la ll lb (setP X k q) S := ⟨h.1, h.2.1, h.2.2.1, h.2.2.2.1, fun n hn => (up_ne (show n ≠ k by omega)).trans (h.2.2.2.2 n hn)⟩
theorem Fr.it {f : Nat → St → St} (hf : ∀ k Y, Fr li la ll lb Y S → Fr li la ll lb (f k Y) S) : ∀ (n : Nat) (X : St), Fr li la ll lb X S → Fr li la ll lb (it f n X) S
  | 0, X, h => by rw [it_0]; exact h
  | n + 1, X, h => by rw [it_s]; exact hf n _ (Fr.it hf n X h)
theorem Fr.nS (h1 : 8 ∈ li) (h2 : 7 ∈ li) (h3 : 9 ∈ li) (h : Fr li la ll lb X S) : Fr li la ll lb (nextS X) S := Fr.I h3 (Fr.I h2 (Fr.I h1 h))
theorem Fr.nM (h1 : 30 ∈ li) (h2 : 32 ∈ li) (h3 : 31 ∈ li) (h4 : 3 ∈ ll) (h : Fr li la ll lb X S) : Fr li la ll lb (nextM X) S := Fr.I h3 (Fr.L h4 (Fr.I h2 (Fr.I h1 h)))
theorem Fr.wi {li' la' ll' lb' : List Nat} (h : Fr li la ll lb X S) (h1 : ∀ n, n ∈ li → n ∈ li') (h2 : ∀ n, n ∈ la → n ∈ la') (h3 : ∀ n, n ∈ ll → n ∈ ll') (h4 : ∀ n, n ∈ lb → n ∈ lb') : Fr li' la' ll' lb' X S := ⟨fun n hn => h.1 n (fun q => hn (h1 n q)), fun n hn => h.2.1 n (fun q => hn (h2 n q)), fun n hn => h.2.2.1 n (fun q => hn (h3 n q)), fun n hn => h.2.2.2.1 n (fun q => hn (h4 n q)), h.2.2.2.2⟩
end
def liR_0 : List Nat := [8, 7, 9, 16 + 0, 18 + 0]
def laR_0 : List Nat := [18 + 0, 20 + 0, 22 + 0]
def FrR_0 (X S : St) : Prop := Fr liR_0 laR_0 [] [] X S
theorem FrR_0.n {X S : St} (h : FrR_0 X S) : FrR_0 (nextS X) S := Fr.nS (by decide) (by decide) (by decide) h
theorem FrR_0.sh {k : Nat} {x y : Int32} {X S : St} (h : FrR_0 X S) : FrR_0 (shareSet 0 k x y X) S := Fr.A (by decide) (Fr.A (by decide) h)
theorem fr_price_0 {X S : St} (h : FrR_0 X S) : FrR_0 (rdPrice 0 X).2 S := by
  unfold rdPrice
  dsimp only
  split
  · exact h.n
  · split
    · exact h.n.n
    · exact FrR_0.n (Fr.A (by decide) h.n.n)
theorem fr_quota_0 {X S : St} (h : FrR_0 X S) : FrR_0 (rdQuota 0 X).2 S := by
  unfold rdQuota
  dsimp only
  split
  · exact h.n
  · exact FrR_0.n (Fr.I (by decide) h.n)
theorem fr_share_0 {k : Nat} {X S : St} (h : FrR_0 X S) : FrR_0 (rdShare 0 k X).2 S := by
  unfold rdShare
  dsimp only
  split
  · exact h.n
  · split
    · split
      · exact h.n.n.n
      · exact FrR_0.n (FrR_0.sh h.n.n.n)
    · exact h.n.n
theorem fr_clause_0 {X S : St} (h : FrR_0 X S) : FrR_0 (rdClause 0 X).2 S := by
  unfold rdClause
  split
  · exact fr_price_0 h
  · split
    · exact fr_quota_0 h
    · split
      · exact fr_share_0 h
      · split
        · exact fr_share_0 h
        · split
          · exact fr_share_0 h
          · split
            · exact fr_share_0 h
            · exact h
theorem fr_rdL_0 {S : St} : ∀ (r : Nat) (X : St), FrR_0 X S → FrR_0 (rdL 0 r X).2 S
  | 0, X, h => h
  | r + 1, X, h => by
    have h2 := fr_clause_0 h
    have h3 : FrR_0 (setI (rdClause 0 X).2 (18 + 0) ((rdClause 0 X).2.1 (18 + 0) + 1)) S := Fr.I (by decide) h2
    rw [rdL]
    dsimp only
    split
    · split
      · exact h3
      · split
        · exact fr_rdL_0 r _ h3.n
        · exact h3
    · exact h2
theorem fr_rd0_0 {S : St} : FrR_0 (rd0 0 S) S := by
  unfold rd0 resetS
  exact FrR_0.n (Fr.I (by decide) (Fr.I (by decide) (Fr.I (by decide) (FrR_0.sh (FrR_0.sh (FrR_0.sh (FrR_0.sh (Fr.A (by decide) (Fr.P (by decide) Fr.rf)))))))))
theorem fr_read_0 {S : St} : FrR_0 (readS 0 S).2 S := by
  unfold readS
  split
  · exact fr_rd0_0
  · exact fr_rdL_0 20 _ fr_rd0_0
def liR_1 : List Nat := [8, 7, 9, 16 + 1, 18 + 1]
def laR_1 : List Nat := [18 + 1, 20 + 1, 22 + 1]
def FrR_1 (X S : St) : Prop := Fr liR_1 laR_1 [] [] X S
theorem FrR_1.n {X S : St} (h : FrR_1 X S) : FrR_1 (nextS X) S := Fr.nS (by decide) (by decide) (by decide) h
theorem FrR_1.sh {k : Nat} {x y : Int32} {X S : St} (h : FrR_1 X S) : FrR_1 (shareSet 1 k x y X) S := Fr.A (by decide) (Fr.A (by decide) h)
theorem fr_price_1 {X S : St} (h : FrR_1 X S) : FrR_1 (rdPrice 1 X).2 S := by
  unfold rdPrice
  dsimp only
  split
  · exact h.n
  · split
    · exact h.n.n
    · exact FrR_1.n (Fr.A (by decide) h.n.n)
theorem fr_quota_1 {X S : St} (h : FrR_1 X S) : FrR_1 (rdQuota 1 X).2 S := by
  unfold rdQuota
  dsimp only
  split
  · exact h.n
  · exact FrR_1.n (Fr.I (by decide) h.n)
theorem fr_share_1 {k : Nat} {X S : St} (h : FrR_1 X S) : FrR_1 (rdShare 1 k X).2 S := by
  unfold rdShare
  dsimp only
  split
  · exact h.n
  · split
    · split
      · exact h.n.n.n
      · exact FrR_1.n (FrR_1.sh h.n.n.n)
    · exact h.n.n
theorem fr_clause_1 {X S : St} (h : FrR_1 X S) : FrR_1 (rdClause 1 X).2 S := by
  unfold rdClause
  split
  · exact fr_price_1 h
  · split
    · exact fr_quota_1 h
    · split
      · exact fr_share_1 h
      · split
        · exact fr_share_1 h
        · split
          · exact fr_share_1 h
          · split
            · exact fr_share_1 h
            · exact h
theorem fr_rdL_1 {S : St} : ∀ (r : Nat) (X : St), FrR_1 X S → FrR_1 (rdL 1 r X).2 S
  | 0, X, h => h
  | r + 1, X, h => by
    have h2 := fr_clause_1 h
    have h3 : FrR_1 (setI (rdClause 1 X).2 (18 + 1) ((rdClause 1 X).2.1 (18 + 1) + 1)) S := Fr.I (by decide) h2
    rw [rdL]
    dsimp only
    split
    · split
      · exact h3
      · split
        · exact fr_rdL_1 r _ h3.n
        · exact h3
    · exact h2
theorem fr_rd0_1 {S : St} : FrR_1 (rd0 1 S) S := by
  unfold rd0 resetS
  exact FrR_1.n (Fr.I (by decide) (Fr.I (by decide) (Fr.I (by decide) (FrR_1.sh (FrR_1.sh (FrR_1.sh (FrR_1.sh (Fr.A (by decide) (Fr.P (by decide) Fr.rf)))))))))
theorem fr_read_1 {S : St} : FrR_1 (readS 1 S).2 S := by
  unfold readS
  split
  · exact fr_rd0_1
  · exact fr_rdL_1 20 _ fr_rd0_1
def liM : List Nat := [20, 30, 32, 31, 34, 33, 27, 28]
def laM : List Nat := [37, 38, 39]
def FrM (X S : St) : Prop := Fr liM laM [3] [] X S
theorem FrM.n {X S : St} (h : FrM X S) : FrM (nextM X) S := Fr.nM (by decide) (by decide) (by decide) (by decide) h
theorem FrM.mu {X S : St} {b : Bool} (h : FrM X S) : FrM (mustM b X) S := by
  unfold mustM
  split
  · split
    · exact h.n
    · exact Fr.I (by decide) (Fr.I (by decide) h)
  · exact h
theorem FrM.nu {X S : St} {lo hi : Int64} (h : FrM X S) : FrM (numM lo hi X).2 S := FrM.mu h
theorem FrM.c2 {X S : St} {p a : Int32} (h : FrM X S) : FrM (cl2 p a X).2 S := by
  unfold cl2
  split
  · exact FrM.nu (FrM.mu h)
  · exact h
theorem FrM.ce {X S : St} {p l : Bool} {part gr a b : Int32} (h : FrM X S) : FrM (clEnd p l part gr a b X) S := by
  unfold clEnd
  split
  · dsimp only
    split
    · exact Fr.I (by decide) (Fr.A (by decide) h)
    · split
      · exact Fr.I (by decide) (Fr.I (by decide) h)
      · exact Fr.I (by decide) (Fr.A (by decide) (Fr.A (by decide) h))
  · exact h
theorem FrM.c1 {X S : St} {p l : Bool} {part gr : Int32} (h : FrM X S) : FrM (cl1 p l part gr X) S := by
  unfold cl1
  exact FrM.ce (FrM.c2 (FrM.nu h))
theorem FrM.cl {X S : St} (h : FrM X S) : FrM (clM X) S := by
  unfold clM
  dsimp only
  refine FrM.c1 ?_
  split
  · exact FrM.nu (FrM.mu h)
  · exact FrM.mu h
theorem FrM.rc {S : St} : ∀ (r : Nat) (X : St), FrM X S → FrM (rcL r X) S
  | 0, X, h => h
  | r + 1, X, h => by
    rw [rcL]
    split
    · split
      · split
        · exact FrM.rc r _ (FrM.cl h.n)
        · exact h
      · exact h
    · exact h
theorem FrM.n2 {X S : St} (h : FrM X S) : FrM (cn2 X) S := by
  unfold cn2
  split
  · split
    · exact h
    · exact FrM.mu h
  · exact h
theorem FrM.n1 {S : St} : FrM (cn1 S) S := by
  unfold cn1 cn0
  refine FrM.n (Fr.it (fun k Y h => Fr.A (by decide) (Fr.A (by decide) h)) 4 _ (Fr.it (fun k Y h => Fr.A (by decide) h) 5 _ ?_))
  exact Fr.I (by decide) (Fr.I (by decide) (Fr.I (by decide) (Fr.I (by decide) (Fr.I (by decide) (Fr.I (by decide) Fr.rf)))))
end FRM
