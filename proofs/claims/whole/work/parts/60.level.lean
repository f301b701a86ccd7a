section LVL
def sN (A : Nat → Nat) (l : Nat) : Nat → Nat
  | 0 => 0
  | k + 1 => sN A l k + min (A k) l
def toN (A : Nat → Nat) : Nat → Nat
  | 0 => 0
  | k + 1 => toN A k + A k
/-- how many lie above l -/
def abN (A : Nat → Nat) (l : Nat) : Nat → Nat
  | 0 => 0
  | k + 1 => abN A l k + (if l < A k then 1 else 0)
theorem sN_mono (A : Nat → Nat) {l l' : Nat} (h : l ≤ l') : ∀ n, sN A l n ≤ sN A l' n
  | 0 => Nat.le_refl _
  | n + 1 => by
    have := sN_mono A h n
    rw [sN, sN]
    omega
theorem sN_succ (A : Nat → Nat) (l : Nat) : ∀ n, sN A (l + 1) n = sN A l n + abN A l n
  | 0 => rfl
  | n + 1 => by
    rw [sN, sN, abN, sN_succ A l n]
    split <;> omega
theorem sN_ge (A : Nat → Nat) (l : Nat) : ∀ n k, k < n → l ≤ A k → l ≤ sN A l n
  | 0, k, h, _ => absurd h (by omega)
  | n + 1, k, h, ha => by
    rw [sN]
    rcases lt_split h with h | rfl
    · have := sN_ge A l n k h ha
      omega
    · omega
theorem sN_le (A : Nat → Nat) (l : Nat) : ∀ n, sN A l n ≤ toN A n
  | 0 => Nat.le_refl _
  | n + 1 => by
    have := sN_le A l n
    rw [sN, toN]
    omega
theorem sN_top (A : Nat → Nat) (l : Nat) : ∀ n, (∀ k, k < n → A k ≤ l) → sN A l n = toN A n
  | 0, _ => rfl
  | n + 1, h => by
    have h2 := h n (by omega)
    rw [sN, toN, sN_top A l n (fun k hk => h k (by omega))]
    omega
theorem sN_0 (A : Nat → Nat) : ∀ n, sN A 0 n = 0
  | 0 => rfl
  | n + 1 => by rw [sN, sN_0 A n]; omega
theorem toN_le (A : Nat → Nat) (B : Nat) : ∀ n, (∀ k, k < n → A k ≤ B) → toN A n ≤ n * B
  | 0, _ => by rw [toN]; omega
  | n + 1, h => by
    have h1 := toN_le A B n (fun k hk => h k (by omega))
    have h2 := h n (by omega)
    rw [toN, Nat.succ_mul]
    omega
/-- l is the greatest level -/
def isG (A : Nat → Nat) (n D l : Nat) : Prop := sN A l n ≤ D ∧ D < sN A (l + 1) n
theorem isG.one {A : Nat → Nat} {n D l l' : Nat} (h : isG A n D l) (k : isG A n D l') : l = l' := by
  have h1 := h.1
  have h2 := h.2
  have k1 := k.1
  have k2 := k.2
  rcases Nat.lt_trichotomy l l' with q | q | q
  · have := sN_mono A (show l + 1 ≤ l' by omega) n
    omega
  · exact q
  · have := sN_mono A (show l' + 1 ≤ l by omega) n
    omega
theorem sumAt_N {ab : Nat → Int64} {A : Nat → Nat} {l : Nat} (hl : l < 2 ^ 62) : ∀ n, (∀ k, k < n → ab k = lN (A k) ∧ A k < 2 ^ 62) → sumAt ab (lN l) n = lN (sN A l n)
  | 0, _ => rfl
  | n + 1, h => by
    obtain ⟨h1, h2⟩ := h n (by omega)
    rw [sumAt, sN, sumAt_N hl n (fun k hk => h k (by omega)), h1]
    by_cases q : lN (A n) < lN l
    · rw [if_pos q, lN_add]
      rw [pk_lLT (by omega) (by omega)] at q
      rw [Nat.min_eq_left (by omega)]
    · rw [if_neg q, lN_add]
      rw [pk_lLT (by omega) (by omega)] at q
      rw [Nat.min_eq_right (by omega)]
theorem gaF_N {gr : Nat → Int32} {ca : Nat → Int64} {grp : Int32} {A : Nat → Nat} {l : Nat} (hl : l < 2 ^ 62) : ∀ n, (∀ k, k < n → (gr k = grp → ca k = lN (A k)) ∧ (¬ gr k = grp → A k = 0) ∧ A k < 2 ^ 62) → gaF gr ca grp (lN l) n = lN (sN A l n)
  | 0, _ => rfl
  | n + 1, h => by
    obtain ⟨h1, h2, h3⟩ := h n (by omega)
    rw [gaF, sN, gaF_N hl n (fun k hk => h k (by omega))]
    by_cases g : gr n = grp
    · rw [if_pos g, h1 g]
      by_cases q : lN l ≤ lN (A n)
      · rw [if_pos q, lN_add]
        rw [pk_lLE (by omega) (by omega)] at q
        rw [Nat.min_eq_right (by omega)]
      · rw [if_neg q, lN_add]
        rw [pk_lLE (by omega) (by omega)] at q
        rw [Nat.min_eq_left (by omega)]
    · rw [if_neg g, h2 g, Nat.zero_min]
      exact lN_add _ 0
theorem dbF_N {gr : Nat → Int32} {le : Nat → Int64} {grp : Int32} {E : Nat → Nat} : ∀ n, (∀ k, k < n → (gr k = grp → le k = lN (E k)) ∧ (¬ gr k = grp → E k = 0)) → dbF gr le grp n = lN (toN E n)
  | 0, _ => rfl
  | n + 1, h => by
    obtain ⟨h1, h2⟩ := h n (by omega)
    rw [dbF, toN, dbF_N n (fun k hk => h k (by omega))]
    by_cases g : gr n = grp
    · rw [if_pos g, h1 g, lN_add]
    · rw [if_neg g, h2 g]
      exact lN_add _ 0
/-- the greatest of them -/
def mxN (A : Nat → Nat) : Nat → Nat
  | 0 => 0
  | k + 1 => max (mxN A k) (A k)
theorem mxN_ge (A : Nat → Nat) : ∀ n k, k < n → A k ≤ mxN A n
  | 0, k, h => absurd h (by omega)
  | n + 1, k, h => by
    rw [mxN]
    rcases lt_split h with h | rfl
    · have := mxN_ge A n k h
      omega
    · omega
theorem mxN_lt (A : Nat → Nat) (B : Nat) (hB : 0 < B) : ∀ n, (∀ k, k < n → A k < B) → mxN A n < B
  | 0, _ => hB
  | n + 1, h => by
    have h1 := mxN_lt A B hB n (fun k hk => h k (by omega))
    have h2 := h n (by omega)
    rw [mxN]
    omega
theorem msF_N {gr : Nat → Int32} {ca : Nat → Int64} {grp : Int32} {A : Nat → Nat} : ∀ n, (∀ k, k < n → (gr k = grp → ca k = lN (A k)) ∧ (¬ gr k = grp → A k = 0) ∧ A k < 2 ^ 62) → msF gr ca grp n = lN (mxN A n)
  | 0, _ => rfl
  | n + 1, h => by
    obtain ⟨h1, h2, h3⟩ := h n (by omega)
    have hx := mxN_lt A (2 ^ 62) (by decide) n (fun k hk => (h k (by omega)).2.2)
    rw [msF, mxN, msF_N n (fun k hk => h k (by omega))]
    by_cases g : gr n = grp
    · rw [if_pos g, h1 g]
      by_cases q : lN (A n) ≤ lN (mxN A n)
      · rw [if_pos q]
        rw [pk_lLE (by omega) (by omega)] at q
        rw [Nat.max_eq_left (by omega)]
      · rw [if_neg q]
        rw [pk_lLE (by omega) (by omega)] at q
        rw [Nat.max_eq_right (by omega)]
    · rw [if_neg g, h2 g, Nat.max_eq_left (by omega)]
theorem gl_G {f : Int64 → Int64} {A : Nat → Nat} {n D : Nat} (hD : D < 2 ^ 62) (hf : ∀ l, l < 2 ^ 32 → f (lN l) = lN (sN A l n)) (hs : toN A n < 2 ^ 62) : ∀ (r l : Nat), l + 2 ^ r ≤ 2 ^ 31 → sN A l n ≤ D → D < sN A (l + 2 ^ r) n → ∃ m, glF f (lN D) r (lN l) = lN m ∧ isG A n D m ∧ m < 2 ^ 31
  | 0, l, h, h1, h2 => ⟨l, rfl, ⟨h1, h2⟩, by omega⟩
  | r + 1, l, h, h1, h2 => by
    have e : 2 ^ (r + 1) = 2 ^ r + 2 ^ r := by rw [Nat.pow_succ]; omega
    have hp : 0 < 2 ^ r := Nat.pos_of_ne_zero (by intro z; have := Nat.two_pow_pos r; omega)
    have hle := sN_le A (l + 2 ^ r) n
    rw [glF]
    show ∃ m, glF f (lN D) r (if lN D < f (lN l + lN (2 ^ r)) then lN l else lN l + lN (2 ^ r)) = lN m ∧ _
    rw [lN_add, hf _ (by omega)]
    by_cases q : lN D < lN (sN A (l + 2 ^ r) n)
    · rw [if_pos q]
      rw [pk_lLT (by omega) (by omega)] at q
      exact gl_G hD hf hs r l (by omega) h1 q
    · rw [if_neg q]
      rw [pk_lLT (by omega) (by omega)] at q
      exact gl_G hD hf hs r (l + 2 ^ r) (by omega) (by omega) (by rw [Nat.add_assoc, ← e]; exact h2)
theorem bs_G {f : Int64 → Int64} {A : Nat → Nat} {n D : Nat} (hD : D < 2 ^ 62) (hf : ∀ l, l < 2 ^ 62 → f (lN l) = lN (sN A l n)) (hs : toN A n < 2 ^ 62) : ∀ (r a b : Nat), a < b → b < 2 ^ 62 → b - a ≤ 2 ^ r → sN A a n ≤ D → D < sN A b n → isG A n D (bsN f (lN D) r a b)
  | 0, a, b, h, hb, h0, h1, h2 => by
    have e : b = a + 1 := by omega
    rw [e] at h2
    exact ⟨h1, h2⟩
  | r + 1, a, b, h, hb, h0, h1, h2 => by
    have e : 2 ^ (r + 1) = 2 ^ r + 2 ^ r := by rw [Nat.pow_succ]; omega
    have hle := sN_le A ((a + b) / 2) n
    rw [bsN]
    by_cases w : b - a ≤ 1
    · have e : b = a + 1 := by omega
      rw [if_pos w]
      rw [e] at h2
      exact ⟨h1, h2⟩
    · rw [if_neg w, hf _ (by omega)]
      by_cases q : lN D < lN (sN A ((a + b) / 2) n)
      · rw [if_pos q]
        rw [pk_lLT (by omega) (by omega)] at q
        exact bs_G hD hf hs r a _ (by omega) (by omega) (by omega) h1 q
      · rw [if_neg q]
        rw [pk_lLT (by omega) (by omega)] at q
        exact bs_G hD hf hs r _ b (by omega) hb (by omega) (by omega) h2
theorem bs_T {f : Int64 → Int64} {A : Nat → Nat} {n D : Nat} (hD : D < 2 ^ 62) (hf : ∀ l, l < 2 ^ 62 → f (lN l) = lN (sN A l n)) (hs : toN A n ≤ D) : ∀ (r a b : Nat), a < b → b < 2 ^ 62 → b - a ≤ 2 ^ r → bsN f (lN D) r a b + 1 = b
  | 0, a, b, h, hb, h0 => by
    have e : b = a + 1 := by omega
    rw [e]
    rfl
  | r + 1, a, b, h, hb, h0 => by
    have e : 2 ^ (r + 1) = 2 ^ r + 2 ^ r := by rw [Nat.pow_succ]; omega
    have hle := sN_le A ((a + b) / 2) n
    rw [bsN]
    by_cases w : b - a ≤ 1
    · have e : b = a + 1 := by omega
      rw [if_pos w]
      omega
    · rw [if_neg w, hf _ (by omega)]
      rw [if_neg (by rw [pk_lLT (by omega) (by omega)]; omega)]
      exact bs_T hD hf hs r _ b (by omega) hb (by omega)
end LVL
