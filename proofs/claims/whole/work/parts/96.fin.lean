theorem Nw_L_7 : Nw RL 7 9 12 [.null, .null, .null, .null, .null, .null, .null, .null, .null, .null, .int 0, .int 0] := ⟨_, _, Cok_9, ⟨tyX9, tyX9_ok, fun j hj => by
  rcases (show j = 0 ∨ j = 1 ∨ j = 2 ∨ j = 3 ∨ j = 4 ∨ j = 5 ∨ j = 6 ∨ j = 7 ∨ j = 8 ∨ j = 9 ∨ j = 10 ∨ j = 11 by omega) with rfl | rfl | rfl | rfl | rfl | rfl | rfl | rfl | rfl | rfl | rfl | rfl <;> rfl⟩, ts_in (List.mem_of_getElem? (i := 83) (by decide +kernel)) rfl, ts_in (List.mem_of_getElem? (i := 84) (by decide +kernel)) rfl, ts_in (List.mem_of_getElem? (i := 65) (by decide +kernel)) rfl⟩
theorem Nw_L_10 : Nw RL 10 10 53 [.int 0, .int 0, .int 0, .null, .null, .null, .int 0, .null, .null, .null, .int 0, .null, .null, .null, .null, .int 0, .null, .int 0, .null, .null, .int 0, .null, .int 0, .null, .null, .null, .int 0, .int 0, .int 0, .int 0, .long 0, .int 0, .int 0, .null, .null, .null, .null, .null, .null, .null, .null, .null, .int 0, .int 0, .null, .null, .null, .int 0, .null, .null, .int 0, .null, .null] := ⟨_, _, Cok_10, ⟨tyX10, tyX10_ok, fun j hj => by
  rcases (show j = 0 ∨ j = 1 ∨ j = 2 ∨ j = 3 ∨ j = 4 ∨ j = 5 ∨ j = 6 ∨ j = 7 ∨ j = 8 ∨ j = 9 ∨ j = 10 ∨ j = 11 ∨ j = 12 ∨ j = 13 ∨ j = 14 ∨ j = 15 ∨ j = 16 ∨ j = 17 ∨ j = 18 ∨ j = 19 ∨ j = 20 ∨ j = 21 ∨ j = 22 ∨ j = 23 ∨ j = 24 ∨ j = 25 ∨ j = 26 ∨ j = 27 ∨ j = 28 ∨ j = 29 ∨ j = 30 ∨ j = 31 ∨ j = 32 ∨ j = 33 ∨ j = 34 ∨ j = 35 ∨ j = 36 ∨ j = 37 ∨ j = 38 ∨ j = 39 ∨ j = 40 ∨ j = 41 ∨ j = 42 ∨ j = 43 ∨ j = 44 ∨ j = 45 ∨ j = 46 ∨ j = 47 ∨ j = 48 ∨ j = 49 ∨ j = 50 ∨ j = 51 ∨ j = 52 by omega) with rfl | rfl | rfl | rfl | rfl | rfl | rfl | rfl | rfl | rfl | rfl | rfl | rfl | rfl | rfl | rfl | rfl | rfl | rfl | rfl | rfl | rfl | rfl | rfl | rfl | rfl | rfl | rfl | rfl | rfl | rfl | rfl | rfl | rfl | rfl | rfl | rfl | rfl | rfl | rfl | rfl | rfl | rfl | rfl | rfl | rfl | rfl | rfl | rfl | rfl | rfl | rfl | rfl <;> rfl⟩, ts_in (List.mem_of_getElem? (i := 728) (by decide +kernel)) rfl, ts_in (List.mem_of_getElem? (i := 729) (by decide +kernel)) rfl, ts_in (List.mem_of_getElem? (i := 76) (by decide +kernel)) rfl⟩
theorem Mli_L_9 : Ml mLaw.1.cls 9 mX9_init := Or.inl (ts_in (List.mem_of_getElem? (i := 85) (by decide +kernel)) rfl)
theorem Mli_L_12 : Ml mLaw.1.cls 12 mX10_init := Or.inl (ts_in (List.mem_of_getElem? (i := 730) (by decide +kernel)) rfl)
section FIN
def zS : St := (fun _ => 0, fun _ _ => 0, fun _ => 0, fun _ _ => 0, fun _ => 0)
def S0 : St := (setP (setP (setP (setA (setA (setA (setA (setA (setA (setA (setA (setI (setI (setI (setI (setI zS 0 (-1)) 16 (-1)) 17 (-1)) 26 (-1)) 33 (-1)) 18 (fillF 5 0 (fun _ => 0))) 19 (fillF 5 0 (fun _ => 0))) 20 (up4T (fun _ => 0))) 21 (up4T (fun _ => 0))) 22 (lo4T (fun _ => 0))) 23 (lo4T (fun _ => 0))) 35 (upd (upd (upd (upd (fun _ => 0) 0 1) 1 1) 2 0) 3 0)) 36 (upd (upd (upd (upd (fun _ => 0) 0 1) 1 1) 2 1) 3 1)) 0 35) 1 39) 2 39)
/-- the places of the layout in the order in which the cells were made -/
def prm (j : Nat) : Nat := if j = 16 then 42 else if 17 ≤ j ∧ j ≤ 42 then j - 1 else j
def hpAll : List va_E := hpX9 ++ hpX10.map (renE (ren2 34 43 [43]))
def prL : List Nat := [0, 1, 2, 3, 4, 5, 6, 7, 8, 9, 10, 11, 12, 13, 14, 15, 42, 16, 17, 18, 19, 20, 21, 22, 23, 24, 25, 26, 27, 28, 29, 30, 31, 32, 33, 34, 35, 36, 37, 38, 39, 40, 41, 43, 44, 45, 46, 47, 48, 49, 50, 51, 52, 53, 54, 55, 56, 57, 58, 59, 60, 61, 62, 63, 64, 65, 66, 67, 68, 69, 70, 71, 72, 73, 74, 75, 76]
def hpLit : List va_E := [.inr (9, [.ref 1, .ref 5, .ref 9, .ref 14, .ref 42, .ref 16, .ref 25, .ref 29, .ref 34, .ref 38, .int (-1), .int 0]), .inr (4, [.ref 2, .ref 3, .ref 4, .int 0]), .inl (0, 40, .inl (fun _ => 0)), .inl (0, 40, .inl (fun _ => 0)), .inl (0, 40, .inl (fun _ => 0)), .inr (3, [.ref 6, .ref 7, .ref 8, .int 0]), .inl (0, 200, .inl (fun _ => 0)), .inl (0, 200, .inl (fun _ => 0)), .inl (0, 200, .inl (fun _ => 0)), .inr (0, [.ref 10, .ref 11, .ref 12, .ref 13, .int 0, .int 0]), .inl (0, 300, .inl (fun _ => 0)), .inl (0, 300, .inl (fun _ => 0)), .inl (0, 300, .inl (fun _ => 0)), .inl (0, 300, .inl (fun _ => 0)), .inr (7, [.ref 15, .int 0]), .inl (0, 200, .inl (fun _ => 0)), .inr (1, [.ref 17, .ref 18, .ref 19, .ref 20, .ref 21, .ref 22, .ref 23, .ref 24, .long 0, .long 0, .long 0]), .inl (1, 40, .inr (.inl (fun _ => 0))), .inl (1, 40, .inr (.inl (fun _ => 0))), .inl (1, 40, .inr (.inl (fun _ => 0))), .inl (1, 40, .inr (.inl (fun _ => 0))), .inl (1, 40, .inr (.inl (fun _ => 0))), .inl (1, 40, .inr (.inl (fun _ => 0))), .inl (1, 40, .inr (.inl (fun _ => 0))), .inl (1, 40, .inr (.inl (fun _ => 0))), .inr (5, [.ref 26, .ref 27, .ref 28, .int 0, .int 0]), .inl (0, 60, .inl (fun _ => 0)), .inl (0, 60, .inl (fun _ => 0)), .inl (0, 60, .inl (fun _ => 0)), .inr (6, [.ref 30, .ref 31, .ref 32, .ref 33, .int 0, .int 0, .int 0, .int 0]), .inl (0, 16, .inl (fun _ => 0)), .inl (0, 16, .inl (fun _ => 0)), .inl (0, 2754, .inl (fun _ => 0)), .inl (0, 17, .inl (fun _ => 0)), .inr (8, [.ref 35, .ref 36, .ref 37, .int (-1), .int 0]), .inl (0, 5, .inl (fillF 5 0 (fun _ => 0))), .inl (0, 4, .inl (up4T (fun _ => 0))), .inl (0, 4, .inl (lo4T (fun _ => 0))), .inr (8, [.ref 39, .ref 40, .ref 41, .int (-1), .int 0]), .inl (0, 5, .inl (fillF 5 0 (fun _ => 0))), .inl (0, 4, .inl (up4T (fun _ => 0))), .inl (0, 4, .inl (lo4T (fun _ => 0))), .inr (2, [.ref 14, .ref 38, .int 0, .int 0, .int 0]), .inr (10, [.int 0, .int 0, .int 0, .ref 44, .ref 45, .ref 46, .int 0, .ref 47, .ref 48, .ref 49, .int 0, .ref 50, .ref 51, .ref 52, .ref 53, .int 0, .ref 54, .int (-1), .ref 55, .ref 56, .int 0, .ref 57, .int 0, .ref 58, .ref 59, .ref 60, .int 0, .int 0, .int 0, .int 0, .long 0, .int (-1), .int 0, .ref 61, .ref 62, .ref 63, .ref 64, .ref 65, .ref 66, .ref 67, .ref 68, .ref 69, .int 0, .int 0, .ref 70, .ref 71, .ref 72, .int 0, .ref 73, .ref 74, .int 0, .ref 75, .ref 76]), .inl (0, 40, .inl (fun _ => 0)), .inl (0, 40, .inl (fun _ => 0)), .inl (0, 40, .inl (fun _ => 0)), .inl (0, 200, .inl (fun _ => 0)), .inl (0, 200, .inl (fun _ => 0)), .inl (0, 200, .inl (fun _ => 0)), .inl (0, 300, .inl (fun _ => 0)), .inl (0, 300, .inl (fun _ => 0)), .inl (0, 300, .inl (fun _ => 0)), .inl (0, 300, .inl (fun _ => 0)), .inl (0, 5, .inl (fun _ => 0)), .inl (0, 4, .inl (upd (upd (upd (upd (fun _ => 0) 0 1) 1 1) 2 0) 3 0)), .inl (0, 4, .inl (upd (upd (upd (upd (fun _ => 0) 0 1) 1 1) 2 1) 3 1)), .inl (0, 5, .inl (fun _ => 0)), .inl (0, 4, .inl (fun _ => 0)), .inl (0, 4, .inl (fun _ => 0)), .inl (0, 200, .inl (fun _ => 0)), .inl (1, 40, .inr (.inl (fun _ => 0))), .inl (1, 40, .inr (.inl (fun _ => 0))), .inl (1, 40, .inr (.inl (fun _ => 0))), .inl (1, 40, .inr (.inl (fun _ => 0))), .inl (1, 40, .inr (.inl (fun _ => 0))), .inl (1, 40, .inr (.inl (fun _ => 0))), .inl (1, 40, .inr (.inl (fun _ => 0))), .inl (1, 40, .inr (.inl (fun _ => 0))), .inl (1, 40, .inr (.inl (fun _ => 0))), .inl (0, 60, .inl (fun _ => 0)), .inl (0, 60, .inl (fun _ => 0)), .inl (0, 60, .inl (fun _ => 0)), .inl (0, 16, .inl (fun _ => 0)), .inl (0, 16, .inl (fun _ => 0)), .inl (0, 17, .inl (fun _ => 0)), .inl (0, 9826, .inl (fun _ => 0))]
def hpPm : List va_E := [.inr (9, [.ref 1, .ref 5, .ref 9, .ref 14, .ref 42, .ref 16, .ref 25, .ref 29, .ref 34, .ref 38, .int (-1), .int 0]), .inr (4, [.ref 2, .ref 3, .ref 4, .int 0]), .inl (0, 40, .inl (fun _ => 0)), .inl (0, 40, .inl (fun _ => 0)), .inl (0, 40, .inl (fun _ => 0)), .inr (3, [.ref 6, .ref 7, .ref 8, .int 0]), .inl (0, 200, .inl (fun _ => 0)), .inl (0, 200, .inl (fun _ => 0)), .inl (0, 200, .inl (fun _ => 0)), .inr (0, [.ref 10, .ref 11, .ref 12, .ref 13, .int 0, .int 0]), .inl (0, 300, .inl (fun _ => 0)), .inl (0, 300, .inl (fun _ => 0)), .inl (0, 300, .inl (fun _ => 0)), .inl (0, 300, .inl (fun _ => 0)), .inr (7, [.ref 15, .int 0]), .inl (0, 200, .inl (fun _ => 0)), .inr (2, [.ref 14, .ref 38, .int 0, .int 0, .int 0]), .inr (1, [.ref 17, .ref 18, .ref 19, .ref 20, .ref 21, .ref 22, .ref 23, .ref 24, .long 0, .long 0, .long 0]), .inl (1, 40, .inr (.inl (fun _ => 0))), .inl (1, 40, .inr (.inl (fun _ => 0))), .inl (1, 40, .inr (.inl (fun _ => 0))), .inl (1, 40, .inr (.inl (fun _ => 0))), .inl (1, 40, .inr (.inl (fun _ => 0))), .inl (1, 40, .inr (.inl (fun _ => 0))), .inl (1, 40, .inr (.inl (fun _ => 0))), .inl (1, 40, .inr (.inl (fun _ => 0))), .inr (5, [.ref 26, .ref 27, .ref 28, .int 0, .int 0]), .inl (0, 60, .inl (fun _ => 0)), .inl (0, 60, .inl (fun _ => 0)), .inl (0, 60, .inl (fun _ => 0)), .inr (6, [.ref 30, .ref 31, .ref 32, .ref 33, .int 0, .int 0, .int 0, .int 0]), .inl (0, 16, .inl (fun _ => 0)), .inl (0, 16, .inl (fun _ => 0)), .inl (0, 2754, .inl (fun _ => 0)), .inl (0, 17, .inl (fun _ => 0)), .inr (8, [.ref 35, .ref 36, .ref 37, .int (-1), .int 0]), .inl (0, 5, .inl (fillF 5 0 (fun _ => 0))), .inl (0, 4, .inl (up4T (fun _ => 0))), .inl (0, 4, .inl (lo4T (fun _ => 0))), .inr (8, [.ref 39, .ref 40, .ref 41, .int (-1), .int 0]), .inl (0, 5, .inl (fillF 5 0 (fun _ => 0))), .inl (0, 4, .inl (up4T (fun _ => 0))), .inl (0, 4, .inl (lo4T (fun _ => 0))), .inr (10, [.int 0, .int 0, .int 0, .ref 44, .ref 45, .ref 46, .int 0, .ref 47, .ref 48, .ref 49, .int 0, .ref 50, .ref 51, .ref 52, .ref 53, .int 0, .ref 54, .int (-1), .ref 55, .ref 56, .int 0, .ref 57, .int 0, .ref 58, .ref 59, .ref 60, .int 0, .int 0, .int 0, .int 0, .long 0, .int (-1), .int 0, .ref 61, .ref 62, .ref 63, .ref 64, .ref 65, .ref 66, .ref 67, .ref 68, .ref 69, .int 0, .int 0, .ref 70, .ref 71, .ref 72, .int 0, .ref 73, .ref 74, .int 0, .ref 75, .ref 76]), .inl (0, 40, .inl (fun _ => 0)), .inl (0, 40, .inl (fun _ => 0)), .inl (0, 40, .inl (fun _ => 0)), .inl (0, 200, .inl (fun _ => 0)), .inl (0, 200, .inl (fun _ => 0)), .inl (0, 200, .inl (fun _ => 0)), .inl (0, 300, .inl (fun _ => 0)), .inl (0, 300, .inl (fun _ => 0)), .inl (0, 300, .inl (fun _ => 0)), .inl (0, 300, .inl (fun _ => 0)), .inl (0, 5, .inl (fun _ => 0)), .inl (0, 4, .inl (upd (upd (upd (upd (fun _ => 0) 0 1) 1 1) 2 0) 3 0)), .inl (0, 4, .inl (upd (upd (upd (upd (fun _ => 0) 0 1) 1 1) 2 1) 3 1)), .inl (0, 5, .inl (fun _ => 0)), .inl (0, 4, .inl (fun _ => 0)), .inl (0, 4, .inl (fun _ => 0)), .inl (0, 200, .inl (fun _ => 0)), .inl (1, 40, .inr (.inl (fun _ => 0))), .inl (1, 40, .inr (.inl (fun _ => 0))), .inl (1, 40, .inr (.inl (fun _ => 0))), .inl (1, 40, .inr (.inl (fun _ => 0))), .inl (1, 40, .inr (.inl (fun _ => 0))), .inl (1, 40, .inr (.inl (fun _ => 0))), .inl (1, 40, .inr (.inl (fun _ => 0))), .inl (1, 40, .inr (.inl (fun _ => 0))), .inl (1, 40, .inr (.inl (fun _ => 0))), .inl (0, 60, .inl (fun _ => 0)), .inl (0, 60, .inl (fun _ => 0)), .inl (0, 60, .inl (fun _ => 0)), .inl (0, 16, .inl (fun _ => 0)), .inl (0, 16, .inl (fun _ => 0)), .inl (0, 17, .inl (fun _ => 0)), .inl (0, 9826, .inl (fun _ => 0))]
theorem all_1 : hpAll = hpLit := rfl
theorem all_2 : (hC S0).map (renE prm) = hpPm := rfl
theorem all_3 : prL.map (fun i => hpLit[i]?) = hpPm.map some := rfl
theorem all_4 : ∀ k, k < 77 → prL[k]? = some (prm k) := by decide
theorem cz_ren (g : GG) (ad : Nat → Nat) (r : Nat → Nat) (e : va_E) : cz (wA g ad) (renE r e) = cz (wA g (fun j => ad (r j))) e := by
  cases e with
  | inl a => rfl
  | inr o =>
    show Sum.inr (o.1, (o.2.map (renV r)).map (cv ad)) = Sum.inr (o.1, o.2.map (cv (fun j => ad (r j))))
    rw [map_ren]
theorem all_eq (g : GG) (ad : Nat → Nat) : prL.map (fun i => (wd (wA g ad) hpAll)[i]?) = (wd (wA g (fun j => ad (prm j))) (hC S0)).map some := by
  have e1 : prL.map (fun i => hpAll[i]?) = ((hC S0).map (renE prm)).map some := by rw [all_1, all_2]; exact all_3
  have hl : (hC S0).length = 77 := rfl
  have hl2 : prL.length = 77 := rfl
  apply List.ext_getElem?
  intro k
  rw [List.getElem?_map, List.getElem?_map]
  rcases Nat.lt_or_ge k 77 with q | q
  · have e2 := all_4 k q
    have e3 : (prL.map (fun i => hpAll[i]?))[k]? = (((hC S0).map (renE prm)).map some)[k]? := by rw [e1]
    rw [List.getElem?_map, List.getElem?_map, List.getElem?_map, e2] at e3
    rw [e2]
    obtain ⟨e, he⟩ : ∃ e, (hC S0)[k]? = some e := ⟨(hC S0)[k]'(by omega), List.getElem?_eq_getElem (by omega)⟩
    rw [he] at e3
    have e4 : hpAll[prm k]? = some (renE prm e) := Option.some.inj e3
    show some ((wd (wA g ad) hpAll)[prm k]?) = Option.map some ((wd (wA g (fun j => ad (prm j))) (hC S0))[k]?)
    rw [wd_at (g := wA g ad) e4, wd_at (g := wA g (fun j => ad (prm j))) he, cz_ren]
    rfl
  · rw [List.getElem?_eq_none (by omega), List.getElem?_eq_none (by unfold wd; rw [List.length_mapIdx]; omega)]
    rfl
theorem filterMap_of {α β : Type} {f : α → Option β} : ∀ {l : List α} {r : List β}, l.map f = r.map some → l.filterMap f = r
  | [], [], _ => rfl
  | [], b :: r, h => by cases h
  | a :: l, [], h => by cases h
  | a :: l, b :: r, h => by
    have h1 : f a = some b ∧ l.map f = r.map some := List.cons.inj h
    rw [List.filterMap_cons, h1.1, filterMap_of h1.2]
theorem prm_far {j : Nat} (h : 77 ≤ j) : prm j = j := by
  unfold prm
  rw [if_neg (by omega), if_neg (by omega)]
theorem gv_conv {xq : CX} {g : GG} {ad : Nat → Nat} {M : MD} {kc nc pc : Nat} {i : Int32} (k : Gv xq (wA g (fun j => ad (prm j))) M kc nc pc [(0, .ref 400), (1, .ref 0), (2, .ref 43), (3, .int i)] [] (hC S0)) : Gv xq (wA g ad) M kc nc pc [(0, .ref 400), (1, .ref 0), (2, .ref 43), (3, .int i)] [] hpAll := by
  obtain ⟨p, e, s, m, args, below, meth, c, A, Q⟩ := xq
  intro hA H locs ls hP hD hS hl
  have hag : Ag 0 (fun j => ad (prm j)) ad := fun j hj => by
    show ad (prm j) = ad j
    rw [prm_far (by omega)]
  have h1 := all_eq g ad
  exact k (hA.ag hag) H locs ls (va_P.sub hP prL (filterMap_of h1)) (va_D.sub hD prL (by decide) h1) hS hl
theorem n0e : (0 : Int32) = nI 0 := nI_0.symm
theorem rel_0 : RelE S0 := by
  refine ⟨0, 0, 0, 0, 0, 0, 0, by omega, ⟨by omega, n0e, n0e, rfl, rfl, rfl, fun k hk => by omega⟩, ⟨by omega, n0e, n0e, rfl, rfl, rfl, fun k hk => by omega⟩, ⟨by omega, n0e, n0e, rfl, rfl, rfl, rfl, rfl, fun k hk => by omega⟩, ⟨by omega, n0e, n0e, rfl⟩, ⟨by omega, n0e, n0e, rfl, rfl, rfl, fun k hk => by omega, rfl, ?_⟩, ⟨by omega, n0e, n0e, fun k hk => by omega, fun k hk => by omega, fun k hk => by omega, fun _ _ => rfl⟩, ⟨rfl, rfl⟩, ⟨?_, ?_, rfl, ?_, rfl⟩, rfl, rfl⟩
  · show rng 0 10000 0
    unfold rng
    decide
  · intro k hk
    refine ⟨?_, ?_⟩
    · show fillF 5 0 (fun _ => 0) k = 0
      exact fill_at hk
    · show rng 0 10000 0
      unfold rng
      decide
  · intro k hk
    match k, hk with
    | 0, _ => exact ⟨rfl, rfl, by decide, by decide, by unfold rng; decide⟩
    | 1, _ => exact ⟨rfl, rfl, by decide, by decide, by unfold rng; decide⟩
    | 2, _ => exact ⟨rfl, rfl, by decide, by decide, by unfold rng; decide⟩
    | 3, _ => exact ⟨rfl, rfl, by decide, by decide, by unfold rng; decide⟩
  · show rng (-1) 10000 (-1)
    unfold rng
    decide
theorem law_go {xq : CX} {g : GG} {ad : Nat → Nat} {L : Nat} {xs : Nat → Int32} (hX : Scr xq (ad 400) L xs) (hL : L ≤ 3072) (fin : ∀ (ad : Nat → Nat) (U : St) (i : Nat), Gv xq (wA g ad) mLaw 77 18130 702 [(0, .ref 400), (1, .ref 0), (2, .ref 43), (3, .int (nI i))] [] (hC U)) : Gv xq (wA g ad) mLaw 0 0 0 [(0, .ref 400)] [] [] := by
  refine gv_new (k := 0) dL_law_0 Nw_L_7 rfl rfl rfl rfl rfl (by decide) (Nat.le_of_ble_eq_true rfl) (Nat.le_of_ble_eq_true rfl) (fun q0 => ?_)
  refine gv_dup dL_law_3 rfl ?_
  refine gv_callI (i := 0) [0] (as := []) (rest := [.ref 0]) (hp1 := []) (hpc := hpX9) (e0 := .inr (9, [.null, .null, .null, .null, .null, .null, .null, .null, .null, .null, .int 0, .int 0])) (hp' := hpX9) dL_law_4 Mli_L_9 Mi_X9 rfl rfl rfl ⟨(Nat.le_of_ble_eq_true rfl), (Nat.le_of_ble_eq_true rfl)⟩ rfl (Nat.le_of_ble_eq_true rfl) (Nat.le_of_ble_eq_true rfl) (Nat.le_of_ble_eq_true rfl) rfl rfl rfl rfl rfl rfl rfl rfl rfl (fun g' => ci_X9 g') (fun ad1 h1 => ?_)
  refine gv_astore_n (lv' := [(0, .ref 400), (1, .ref 0)]) dL_law_7 (by decide) rfl ?_
  refine gv_new (k := 43) dL_law_8 Nw_L_10 rfl rfl rfl rfl rfl (by decide) (Nat.le_of_ble_eq_true rfl) (Nat.le_of_ble_eq_true rfl) (fun q1 => ?_)
  refine gv_dup dL_law_11 rfl ?_
  refine gv_callI (i := 43) [43] (as := []) (rest := [.ref 43]) (hp1 := hpX9) (hpc := hpX10) (e0 := .inr (10, [.int 0, .int 0, .int 0, .null, .null, .null, .int 0, .null, .null, .null, .int 0, .null, .null, .null, .null, .int 0, .null, .int 0, .null, .null, .int 0, .null, .int 0, .null, .null, .null, .int 0, .int 0, .int 0, .int 0, .long 0, .int 0, .int 0, .null, .null, .null, .null, .null, .null, .null, .null, .null, .int 0, .int 0, .null, .null, .null, .int 0, .null, .null, .int 0, .null, .null])) (hp' := hpAll) dL_law_12 Mli_L_12 Mi_X10 rfl rfl rfl ⟨(Nat.le_of_ble_eq_true rfl), (Nat.le_of_ble_eq_true rfl)⟩ rfl (Nat.le_of_ble_eq_true rfl) (Nat.le_of_ble_eq_true rfl) (Nat.le_of_ble_eq_true rfl) rfl rfl rfl rfl rfl rfl rfl rfl rfl (fun g' => ci_X10 g') (fun ad2 h2 => ?_)
  refine gv_astore_n (lv' := [(0, .ref 400), (1, .ref 0), (2, .ref 43)]) dL_law_15 (by decide) rfl ?_
  refine gv_iconst (v := nI 0) dL_law_16 (by decide) ?_
  refine gv_istore_n (lv' := [(0, .ref 400), (1, .ref 0), (2, .ref 43), (3, .int (nI 0))]) dL_law_17 (by decide) rfl ?_
  refine gv_conv ?_
  have e : ad2 (prm 400) = ad 400 := by
    rw [prm_far (by omega), h2 400 (Or.inr (by omega)), up_ne (by omega), h1 400 (Or.inr (by omega)), up_ne (by omega)]
  exact law_loop (g := wA g (fun j => ad2 (prm j))) (by show Scr xq (ad2 (prm 400)) L xs; rw [e]; exact hX) hL (fun U i => fin _ U i) (L + 1) 0 S0 (by omega) (by omega) rel_0
theorem whole_start {p : Program} {e : Env} {s : State} {m : MethodId} {below : List Frame} {meth : Method} {c : Code} (l : Launch) {b L : Nat} {xs : Nat → Int32} (hL : L ≤ 3072) (C0 : lw_At p s m meth c b L xs) : W p l e room_1 s m #[Value.ref b] below meth c s.heap [] 0 0 (lw_Z below #[Value.ref b] s) (entryFrame m ([Value.ref b] : List Value).toArray 4) := by
  obtain ⟨hx, hb, hr, hml, hown, hts, hX, hbl, hlocks, hgv⟩ := id C0
  have hT : ∀ w ∈ Ts, w.before #[Value.ref b] s = true := fun w hw => hts w (List.mem_filter.mp hw).1
  obtain ⟨ac, hac⟩ := start_A hts
  obtain ⟨D, hD⟩ := start_K hT
  obtain ⟨k, v, t, hSx⟩ := start_Sx (b := b) l D ac hts hgv
  have hN := start_N hts
  have h400 : ad0 k v t b 400 = b := by unfold ad0; rw [if_pos rfl]
  have hA : Act (l, D, ad0 k v t b, ac) mLaw (fun q : Nat => s.heap.size ≤ q) p s m #[Value.ref b] meth c := ⟨hx, hb, hml, hown, hT, hr, hlocks, ⟨hD, hac⟩, hN, hSx, fun _ h => h⟩
  have G : Gv (p, e, s, m, #[Value.ref b], below, meth, c, fun q : Nat => s.heap.size ≤ q, lw_Z below #[Value.ref b] s) (wA (l, D, ad0 k v t b, ac) (ad0 k v t b)) mLaw 0 0 0 [(0, .ref 400)] [] [] := by
    refine law_go (L := L) (xs := xs) ?_ hL ?_
    · rw [h400]
      exact ⟨hX, hbl, Nat.not_le.mpr hbl⟩
    · intro ad U i
      refine gv_iconst (v := 1) dL_law_702 (by decide) ?_
      intro hA2 H locs ls hP hD2 hS hl
      exact va_forget (fun q hq => hS.2.2 q hq) (lw_ret hx hb hr hlocks dL_law_703)
  have hl := lv_entry ([.ref b]) (n := 4) (Nat.le_of_ble_eq_true rfl)
  rw [lg_entry_eq]
  generalize (lg_sl ([.ref b]) ++ List.replicate (4 - (lg_sl ([.ref b])).length) Slot.unset).toArray = ls at hl ⊢
  have hl2 : lv_has ls 4 (lvc (wA (l, D, ad0 k v t b, ac) (ad0 k v t b)) [(0, .ref 400)]) := by
    show lv_has ls 4 [(0, .ref (ad0 k v t b 400))]
    rw [h400]
    exact hl
  exact G hA s.heap [] ls (fun k q h => by simp [wd] at h) ⟨fun i j p q h => by simp [wd] at h, fun k q h => by simp [wd] at h⟩ va_S.rf hl2
end FIN
