section CINS
theorem Oi_X4 : Cond.methodLink RX4 3 objectInit ∈ Ts := ts_in (List.mem_of_getElem? (i := 96) (by decide +kernel)) rfl
theorem Ff_X4_9 : Ff RX4 9 4 0 (.array .int) := ⟨_, _, _, Cok_4, by decide, ts_in (List.mem_of_getElem? (i := 97) (by decide +kernel)) rfl, rfl, rfl, by decide +kernel⟩
theorem Ff_X4_15 : Ff RX4 15 4 1 (.array .int) := ⟨_, _, _, Cok_4, by decide, ts_in (List.mem_of_getElem? (i := 100) (by decide +kernel)) rfl, rfl, rfl, by decide +kernel⟩
theorem Ff_X4_18 : Ff RX4 18 4 2 (.array .int) := ⟨_, _, _, Cok_4, by decide, ts_in (List.mem_of_getElem? (i := 102) (by decide +kernel)) rfl, rfl, rfl, by decide +kernel⟩
abbrev mX4_init : MD := (yX4_init, cX4_init, 1, none, { frames := 1, cells := 3, slots := 120, locals := 12 })
theorem Mi_X4 : Mi mX4_init 0 3 120 := ⟨ts_in (List.mem_of_getElem? (i := 95) (by decide +kernel)) rfl, ts_in (List.mem_of_getElem? (i := 66) (by decide +kernel)) rfl, ⟨by decide +kernel, by decide +kernel⟩, by decide +kernel, rfl, rfl, rfl, ts_in (List.mem_of_getElem? (i := 94) (by decide +kernel)) rfl, rfl⟩
def hpX4 : List va_E := [.inr (4, [.ref 1, .ref 2, .ref 3, .int 0]), .inl (0, 40, .inl (fun _ => 0)), .inl (0, 40, .inl (fun _ => 0)), .inl (0, 40, .inl (fun _ => 0))]
theorem ci_X4 (g : GG) : Ci g mX4_init [.ref 0] [.inr (4, [.null, .null, .null, .int 0])] hpX4 1 3 120 := by
  refine ci_of rfl rfl rfl ?_
  show Cv g 1 hpX4 3 120 mX4_init 0 0 0 [(0, .ref 0)] [] [.inr (4, [.null, .null, .null, .int 0])]
  refine cv_aload dX4_init_0 rfl ?_
  refine cv_obj dX4_init_1 Oi_X4 (Nat.le_of_ble_eq_true rfl) (Nat.le_of_ble_eq_true rfl) ?_
  refine cv_aload dX4_init_4 rfl ?_
  refine cv_bipush (v := nI 40) dX4_init_5 (by decide) ?_
  refine cv_newI (N := 40) (k := 1) dX4_init_7 rfl (by decide) rfl (by decide) rfl rfl rfl (by decide) (Nat.le_of_ble_eq_true rfl) (Nat.le_of_ble_eq_true rfl) ?_
  refine cv_putF (hp' := [.inr (4, [.ref 1, .null, .null, .int 0]), .inl (0, 40, .inl (fun _ => 0))]) dX4_init_9 Ff_X4_9 rfl rfl (fun _ => rfl) (fun _ => rfl) rfl ?_
  refine cv_aload dX4_init_12 rfl ?_
  refine cv_bipush (v := nI 40) dX4_init_13 (by decide) ?_
  refine cv_newI (N := 40) (k := 2) dX4_init_15 rfl (by decide) rfl (by decide) rfl rfl rfl (by decide) (Nat.le_of_ble_eq_true rfl) (Nat.le_of_ble_eq_true rfl) ?_
  refine cv_putF (hp' := [.inr (4, [.ref 1, .ref 2, .null, .int 0]), .inl (0, 40, .inl (fun _ => 0)), .inl (0, 40, .inl (fun _ => 0))]) dX4_init_17 Ff_X4_15 rfl rfl (fun _ => rfl) (fun _ => rfl) rfl ?_
  refine cv_aload dX4_init_20 rfl ?_
  refine cv_bipush (v := nI 40) dX4_init_21 (by decide) ?_
  refine cv_newI (N := 40) (k := 3) dX4_init_23 rfl (by decide) rfl (by decide) rfl rfl rfl (by decide) (Nat.le_of_ble_eq_true rfl) (Nat.le_of_ble_eq_true rfl) ?_
  refine cv_putF (hp' := [.inr (4, [.ref 1, .ref 2, .ref 3, .int 0]), .inl (0, 40, .inl (fun _ => 0)), .inl (0, 40, .inl (fun _ => 0)), .inl (0, 40, .inl (fun _ => 0))]) dX4_init_25 Ff_X4_18 rfl rfl (fun _ => rfl) (fun _ => rfl) rfl ?_
  exact cv_ret dX4_init_28 rfl
theorem Oi_X3 : Cond.methodLink RX3 3 objectInit ∈ Ts := ts_in (List.mem_of_getElem? (i := 123) (by decide +kernel)) rfl
theorem Ff_X3_9 : Ff RX3 9 3 0 (.array .int) := ⟨_, _, _, Cok_3, by decide, ts_in (List.mem_of_getElem? (i := 124) (by decide +kernel)) rfl, rfl, rfl, by decide +kernel⟩
theorem Ff_X3_15 : Ff RX3 15 3 1 (.array .int) := ⟨_, _, _, Cok_3, by decide, ts_in (List.mem_of_getElem? (i := 126) (by decide +kernel)) rfl, rfl, rfl, by decide +kernel⟩
theorem Ff_X3_18 : Ff RX3 18 3 2 (.array .int) := ⟨_, _, _, Cok_3, by decide, ts_in (List.mem_of_getElem? (i := 128) (by decide +kernel)) rfl, rfl, rfl, by decide +kernel⟩
abbrev mX3_init : MD := (yX3_init, cX3_init, 1, none, { frames := 1, cells := 3, slots := 600, locals := 12 })
theorem Mi_X3 : Mi mX3_init 0 3 600 := ⟨ts_in (List.mem_of_getElem? (i := 122) (by decide +kernel)) rfl, ts_in (List.mem_of_getElem? (i := 67) (by decide +kernel)) rfl, ⟨by decide +kernel, by decide +kernel⟩, by decide +kernel, rfl, rfl, rfl, ts_in (List.mem_of_getElem? (i := 121) (by decide +kernel)) rfl, rfl⟩
def hpX3 : List va_E := [.inr (3, [.ref 1, .ref 2, .ref 3, .int 0]), .inl (0, 200, .inl (fun _ => 0)), .inl (0, 200, .inl (fun _ => 0)), .inl (0, 200, .inl (fun _ => 0))]
theorem ci_X3 (g : GG) : Ci g mX3_init [.ref 0] [.inr (3, [.null, .null, .null, .int 0])] hpX3 1 3 600 := by
  refine ci_of rfl rfl rfl ?_
  show Cv g 1 hpX3 3 600 mX3_init 0 0 0 [(0, .ref 0)] [] [.inr (3, [.null, .null, .null, .int 0])]
  refine cv_aload dX3_init_0 rfl ?_
  refine cv_obj dX3_init_1 Oi_X3 (Nat.le_of_ble_eq_true rfl) (Nat.le_of_ble_eq_true rfl) ?_
  refine cv_aload dX3_init_4 rfl ?_
  refine cv_sipush (v := nI 200) dX3_init_5 (by decide) ?_
  refine cv_newI (N := 200) (k := 1) dX3_init_8 rfl (by decide) rfl (by decide) rfl rfl rfl (by decide) (Nat.le_of_ble_eq_true rfl) (Nat.le_of_ble_eq_true rfl) ?_
  refine cv_putF (hp' := [.inr (3, [.ref 1, .null, .null, .int 0]), .inl (0, 200, .inl (fun _ => 0))]) dX3_init_10 Ff_X3_9 rfl rfl (fun _ => rfl) (fun _ => rfl) rfl ?_
  refine cv_aload dX3_init_13 rfl ?_
  refine cv_sipush (v := nI 200) dX3_init_14 (by decide) ?_
  refine cv_newI (N := 200) (k := 2) dX3_init_17 rfl (by decide) rfl (by decide) rfl rfl rfl (by decide) (Nat.le_of_ble_eq_true rfl) (Nat.le_of_ble_eq_true rfl) ?_
  refine cv_putF (hp' := [.inr (3, [.ref 1, .ref 2, .null, .int 0]), .inl (0, 200, .inl (fun _ => 0)), .inl (0, 200, .inl (fun _ => 0))]) dX3_init_19 Ff_X3_15 rfl rfl (fun _ => rfl) (fun _ => rfl) rfl ?_
  refine cv_aload dX3_init_22 rfl ?_
  refine cv_sipush (v := nI 200) dX3_init_23 (by decide) ?_
  refine cv_newI (N := 200) (k := 3) dX3_init_26 rfl (by decide) rfl (by decide) rfl rfl rfl (by decide) (Nat.le_of_ble_eq_true rfl) (Nat.le_of_ble_eq_true rfl) ?_
  refine cv_putF (hp' := [.inr (3, [.ref 1, .ref 2, .ref 3, .int 0]), .inl (0, 200, .inl (fun _ => 0)), .inl (0, 200, .inl (fun _ => 0)), .inl (0, 200, .inl (fun _ => 0))]) dX3_init_28 Ff_X3_18 rfl rfl (fun _ => rfl) (fun _ => rfl) rfl ?_
  exact cv_ret dX3_init_31 rfl
theorem Oi_X0 : Cond.methodLink RX0 3 objectInit ∈ Ts := ts_in (List.mem_of_getElem? (i := 147) (by decide +kernel)) rfl
theorem Ff_X0_9 : Ff RX0 9 0 0 (.array .int) := ⟨_, _, _, Cok_0, by decide, ts_in (List.mem_of_getElem? (i := 148) (by decide +kernel)) rfl, rfl, rfl, by decide +kernel⟩
theorem Ff_X0_15 : Ff RX0 15 0 1 (.array .int) := ⟨_, _, _, Cok_0, by decide, ts_in (List.mem_of_getElem? (i := 150) (by decide +kernel)) rfl, rfl, rfl, by decide +kernel⟩
theorem Ff_X0_18 : Ff RX0 18 0 2 (.array .int) := ⟨_, _, _, Cok_0, by decide, ts_in (List.mem_of_getElem? (i := 152) (by decide +kernel)) rfl, rfl, rfl, by decide +kernel⟩
theorem Ff_X0_21 : Ff RX0 21 0 3 (.array .int) := ⟨_, _, _, Cok_0, by decide, ts_in (List.mem_of_getElem? (i := 154) (by decide +kernel)) rfl, rfl, rfl, by decide +kernel⟩
abbrev mX0_init : MD := (yX0_init, cX0_init, 1, none, { frames := 1, cells := 4, slots := 1200, locals := 12 })
theorem Mi_X0 : Mi mX0_init 0 4 1200 := ⟨ts_in (List.mem_of_getElem? (i := 146) (by decide +kernel)) rfl, ts_in (List.mem_of_getElem? (i := 68) (by decide +kernel)) rfl, ⟨by decide +kernel, by decide +kernel⟩, by decide +kernel, rfl, rfl, rfl, ts_in (List.mem_of_getElem? (i := 145) (by decide +kernel)) rfl, rfl⟩
def hpX0 : List va_E := [.inr (0, [.ref 1, .ref 2, .ref 3, .ref 4, .int 0, .int 0]), .inl (0, 300, .inl (fun _ => 0)), .inl (0, 300, .inl (fun _ => 0)), .inl (0, 300, .inl (fun _ => 0)), .inl (0, 300, .inl (fun _ => 0))]
theorem ci_X0 (g : GG) : Ci g mX0_init [.ref 0] [.inr (0, [.null, .null, .null, .null, .int 0, .int 0])] hpX0 1 4 1200 := by
  refine ci_of rfl rfl rfl ?_
  show Cv g 1 hpX0 4 1200 mX0_init 0 0 0 [(0, .ref 0)] [] [.inr (0, [.null, .null, .null, .null, .int 0, .int 0])]
  refine cv_aload dX0_init_0 rfl ?_
  refine cv_obj dX0_init_1 Oi_X0 (Nat.le_of_ble_eq_true rfl) (Nat.le_of_ble_eq_true rfl) ?_
  refine cv_aload dX0_init_4 rfl ?_
  refine cv_sipush (v := nI 300) dX0_init_5 (by decide) ?_
  refine cv_newI (N := 300) (k := 1) dX0_init_8 rfl (by decide) rfl (by decide) rfl rfl rfl (by decide) (Nat.le_of_ble_eq_true rfl) (Nat.le_of_ble_eq_true rfl) ?_
  refine cv_putF (hp' := [.inr (0, [.ref 1, .null, .null, .null, .int 0, .int 0]), .inl (0, 300, .inl (fun _ => 0))]) dX0_init_10 Ff_X0_9 rfl rfl (fun _ => rfl) (fun _ => rfl) rfl ?_
  refine cv_aload dX0_init_13 rfl ?_
  refine cv_sipush (v := nI 300) dX0_init_14 (by decide) ?_
  refine cv_newI (N := 300) (k := 2) dX0_init_17 rfl (by decide) rfl (by decide) rfl rfl rfl (by decide) (Nat.le_of_ble_eq_true rfl) (Nat.le_of_ble_eq_true rfl) ?_
  refine cv_putF (hp' := [.inr (0, [.ref 1, .ref 2, .null, .null, .int 0, .int 0]), .inl (0, 300, .inl (fun _ => 0)), .inl (0, 300, .inl (fun _ => 0))]) dX0_init_19 Ff_X0_15 rfl rfl (fun _ => rfl) (fun _ => rfl) rfl ?_
  refine cv_aload dX0_init_22 rfl ?_
  refine cv_sipush (v := nI 300) dX0_init_23 (by decide) ?_
  refine cv_newI (N := 300) (k := 3) dX0_init_26 rfl (by decide) rfl (by decide) rfl rfl rfl (by decide) (Nat.le_of_ble_eq_true rfl) (Nat.le_of_ble_eq_true rfl) ?_
  refine cv_putF (hp' := [.inr (0, [.ref 1, .ref 2, .ref 3, .null, .int 0, .int 0]), .inl (0, 300, .inl (fun _ => 0)), .inl (0, 300, .inl (fun _ => 0)), .inl (0, 300, .inl (fun _ => 0))]) dX0_init_28 Ff_X0_18 rfl rfl (fun _ => rfl) (fun _ => rfl) rfl ?_
  refine cv_aload dX0_init_31 rfl ?_
  refine cv_sipush (v := nI 300) dX0_init_32 (by decide) ?_
  refine cv_newI (N := 300) (k := 4) dX0_init_35 rfl (by decide) rfl (by decide) rfl rfl rfl (by decide) (Nat.le_of_ble_eq_true rfl) (Nat.le_of_ble_eq_true rfl) ?_
  refine cv_putF (hp' := [.inr (0, [.ref 1, .ref 2, .ref 3, .ref 4, .int 0, .int 0]), .inl (0, 300, .inl (fun _ => 0)), .inl (0, 300, .inl (fun _ => 0)), .inl (0, 300, .inl (fun _ => 0)), .inl (0, 300, .inl (fun _ => 0))]) dX0_init_37 Ff_X0_21 rfl rfl (fun _ => rfl) (fun _ => rfl) rfl ?_
  exact cv_ret dX0_init_40 rfl
theorem Oi_X7 : Cond.methodLink RX7 3 objectInit ∈ Ts := ts_in (List.mem_of_getElem? (i := 179) (by decide +kernel)) rfl
theorem Ff_X7_9 : Ff RX7 9 7 0 (.array .int) := ⟨_, _, _, Cok_7, by decide, ts_in (List.mem_of_getElem? (i := 180) (by decide +kernel)) rfl, rfl, rfl, by decide +kernel⟩
abbrev mX7_init : MD := (yX7_init, cX7_init, 1, none, { frames := 1, cells := 1, slots := 200, locals := 12 })
theorem Mi_X7 : Mi mX7_init 0 1 200 := ⟨ts_in (List.mem_of_getElem? (i := 178) (by decide +kernel)) rfl, ts_in (List.mem_of_getElem? (i := 69) (by decide +kernel)) rfl, ⟨by decide +kernel, by decide +kernel⟩, by decide +kernel, rfl, rfl, rfl, ts_in (List.mem_of_getElem? (i := 177) (by decide +kernel)) rfl, rfl⟩
def hpX7 : List va_E := [.inr (7, [.ref 1, .int 0]), .inl (0, 200, .inl (fun _ => 0))]
theorem ci_X7 (g : GG) : Ci g mX7_init [.ref 0] [.inr (7, [.null, .int 0])] hpX7 1 1 200 := by
  refine ci_of rfl rfl rfl ?_
  show Cv g 1 hpX7 1 200 mX7_init 0 0 0 [(0, .ref 0)] [] [.inr (7, [.null, .int 0])]
  refine cv_aload dX7_init_0 rfl ?_
  refine cv_obj dX7_init_1 Oi_X7 (Nat.le_of_ble_eq_true rfl) (Nat.le_of_ble_eq_true rfl) ?_
  refine cv_aload dX7_init_4 rfl ?_
  refine cv_sipush (v := nI 200) dX7_init_5 (by decide) ?_
  refine cv_newI (N := 200) (k := 1) dX7_init_8 rfl (by decide) rfl (by decide) rfl rfl rfl (by decide) (Nat.le_of_ble_eq_true rfl) (Nat.le_of_ble_eq_true rfl) ?_
  refine cv_putF (hp' := [.inr (7, [.ref 1, .int 0]), .inl (0, 200, .inl (fun _ => 0))]) dX7_init_10 Ff_X7_9 rfl rfl (fun _ => rfl) (fun _ => rfl) rfl ?_
  exact cv_ret dX7_init_13 rfl
theorem Oi_X1 : Cond.methodLink RX1 3 objectInit ∈ Ts := ts_in (List.mem_of_getElem? (i := 195) (by decide +kernel)) rfl
theorem Ff_X1_9 : Ff RX1 9 1 0 (.array .long) := ⟨_, _, _, Cok_1, by decide, ts_in (List.mem_of_getElem? (i := 196) (by decide +kernel)) rfl, rfl, rfl, by decide +kernel⟩
theorem Ff_X1_15 : Ff RX1 15 1 1 (.array .long) := ⟨_, _, _, Cok_1, by decide, ts_in (List.mem_of_getElem? (i := 198) (by decide +kernel)) rfl, rfl, rfl, by decide +kernel⟩
theorem Ff_X1_18 : Ff RX1 18 1 2 (.array .long) := ⟨_, _, _, Cok_1, by decide, ts_in (List.mem_of_getElem? (i := 200) (by decide +kernel)) rfl, rfl, rfl, by decide +kernel⟩
theorem Ff_X1_21 : Ff RX1 21 1 3 (.array .long) := ⟨_, _, _, Cok_1, by decide, ts_in (List.mem_of_getElem? (i := 202) (by decide +kernel)) rfl, rfl, rfl, by decide +kernel⟩
theorem Ff_X1_24 : Ff RX1 24 1 4 (.array .long) := ⟨_, _, _, Cok_1, by decide, ts_in (List.mem_of_getElem? (i := 203) (by decide +kernel)) rfl, rfl, rfl, by decide +kernel⟩
theorem Ff_X1_27 : Ff RX1 27 1 5 (.array .long) := ⟨_, _, _, Cok_1, by decide, ts_in (List.mem_of_getElem? (i := 205) (by decide +kernel)) rfl, rfl, rfl, by decide +kernel⟩
theorem Ff_X1_30 : Ff RX1 30 1 6 (.array .long) := ⟨_, _, _, Cok_1, by decide, ts_in (List.mem_of_getElem? (i := 206) (by decide +kernel)) rfl, rfl, rfl, by decide +kernel⟩
theorem Ff_X1_33 : Ff RX1 33 1 7 (.array .long) := ⟨_, _, _, Cok_1, by decide, ts_in (List.mem_of_getElem? (i := 208) (by decide +kernel)) rfl, rfl, rfl, by decide +kernel⟩
abbrev mX1_init : MD := (yX1_init, cX1_init, 1, none, { frames := 1, cells := 8, slots := 320, locals := 12 })
theorem Mi_X1 : Mi mX1_init 0 8 320 := ⟨ts_in (List.mem_of_getElem? (i := 194) (by decide +kernel)) rfl, ts_in (List.mem_of_getElem? (i := 70) (by decide +kernel)) rfl, ⟨by decide +kernel, by decide +kernel⟩, by decide +kernel, rfl, rfl, rfl, ts_in (List.mem_of_getElem? (i := 193) (by decide +kernel)) rfl, rfl⟩
def hpX1 : List va_E := [.inr (1, [.ref 1, .ref 2, .ref 3, .ref 4, .ref 5, .ref 6, .ref 7, .ref 8, .long 0, .long 0, .long 0]), .inl (1, 40, .inr (.inl (fun _ => 0))), .inl (1, 40, .inr (.inl (fun _ => 0))), .inl (1, 40, .inr (.inl (fun _ => 0))), .inl (1, 40, .inr (.inl (fun _ => 0))), .inl (1, 40, .inr (.inl (fun _ => 0))), .inl (1, 40, .inr (.inl (fun _ => 0))), .inl (1, 40, .inr (.inl (fun _ => 0))), .inl (1, 40, .inr (.inl (fun _ => 0)))]
theorem ci_X1 (g : GG) : Ci g mX1_init [.ref 0] [.inr (1, [.null, .null, .null, .null, .null, .null, .null, .null, .long 0, .long 0, .long 0])] hpX1 1 8 320 := by
  refine ci_of rfl rfl rfl ?_
  show Cv g 1 hpX1 8 320 mX1_init 0 0 0 [(0, .ref 0)] [] [.inr (1, [.null, .null, .null, .null, .null, .null, .null, .null, .long 0, .long 0, .long 0])]
  refine cv_aload dX1_init_0 rfl ?_
  refine cv_obj dX1_init_1 Oi_X1 (Nat.le_of_ble_eq_true rfl) (Nat.le_of_ble_eq_true rfl) ?_
  refine cv_aload dX1_init_4 rfl ?_
  refine cv_bipush (v := nI 40) dX1_init_5 (by decide) ?_
  refine cv_newL (N := 40) (k := 1) dX1_init_7 rfl (by decide) rfl (by decide) rfl rfl rfl (by decide) (Nat.le_of_ble_eq_true rfl) (Nat.le_of_ble_eq_true rfl) ?_
  refine cv_putF (hp' := [.inr (1, [.ref 1, .null, .null, .null, .null, .null, .null, .null, .long 0, .long 0, .long 0]), .inl (1, 40, .inr (.inl (fun _ => 0)))]) dX1_init_9 Ff_X1_9 rfl rfl (fun _ => rfl) (fun _ => rfl) rfl ?_
  refine cv_aload dX1_init_12 rfl ?_
  refine cv_bipush (v := nI 40) dX1_init_13 (by decide) ?_
  refine cv_newL (N := 40) (k := 2) dX1_init_15 rfl (by decide) rfl (by decide) rfl rfl rfl (by decide) (Nat.le_of_ble_eq_true rfl) (Nat.le_of_ble_eq_true rfl) ?_
  refine cv_putF (hp' := [.inr (1, [.ref 1, .ref 2, .null, .null, .null, .null, .null, .null, .long 0, .long 0, .long 0]), .inl (1, 40, .inr (.inl (fun _ => 0))), .inl (1, 40, .inr (.inl (fun _ => 0)))]) dX1_init_17 Ff_X1_15 rfl rfl (fun _ => rfl) (fun _ => rfl) rfl ?_
  refine cv_aload dX1_init_20 rfl ?_
  refine cv_bipush (v := nI 40) dX1_init_21 (by decide) ?_
  refine cv_newL (N := 40) (k := 3) dX1_init_23 rfl (by decide) rfl (by decide) rfl rfl rfl (by decide) (Nat.le_of_ble_eq_true rfl) (Nat.le_of_ble_eq_true rfl) ?_
  refine cv_putF (hp' := [.inr (1, [.ref 1, .ref 2, .ref 3, .null, .null, .null, .null, .null, .long 0, .long 0, .long 0]), .inl (1, 40, .inr (.inl (fun _ => 0))), .inl (1, 40, .inr (.inl (fun _ => 0))), .inl (1, 40, .inr (.inl (fun _ => 0)))]) dX1_init_25 Ff_X1_18 rfl rfl (fun _ => rfl) (fun _ => rfl) rfl ?_
  refine cv_aload dX1_init_28 rfl ?_
  refine cv_bipush (v := nI 40) dX1_init_29 (by decide) ?_
  refine cv_newL (N := 40) (k := 4) dX1_init_31 rfl (by decide) rfl (by decide) rfl rfl rfl (by decide) (Nat.le_of_ble_eq_true rfl) (Nat.le_of_ble_eq_true rfl) ?_
  refine cv_putF (hp' := [.inr (1, [.ref 1, .ref 2, .ref 3, .ref 4, .null, .null, .null, .null, .long 0, .long 0, .long 0]), .inl (1, 40, .inr (.inl (fun _ => 0))), .inl (1, 40, .inr (.inl (fun _ => 0))), .inl (1, 40, .inr (.inl (fun _ => 0))), .inl (1, 40, .inr (.inl (fun _ => 0)))]) dX1_init_33 Ff_X1_21 rfl rfl (fun _ => rfl) (fun _ => rfl) rfl ?_
  refine cv_aload dX1_init_36 rfl ?_
  refine cv_bipush (v := nI 40) dX1_init_37 (by decide) ?_
  refine cv_newL (N := 40) (k := 5) dX1_init_39 rfl (by decide) rfl (by decide) rfl rfl rfl (by decide) (Nat.le_of_ble_eq_true rfl) (Nat.le_of_ble_eq_true rfl) ?_
  refine cv_putF (hp' := [.inr (1, [.ref 1, .ref 2, .ref 3, .ref 4, .ref 5, .null, .null, .null, .long 0, .long 0, .long 0]), .inl (1, 40, .inr (.inl (fun _ => 0))), .inl (1, 40, .inr (.inl (fun _ => 0))), .inl (1, 40, .inr (.inl (fun _ => 0))), .inl (1, 40, .inr (.inl (fun _ => 0))), .inl (1, 40, .inr (.inl (fun _ => 0)))]) dX1_init_41 Ff_X1_24 rfl rfl (fun _ => rfl) (fun _ => rfl) rfl ?_
  refine cv_aload dX1_init_44 rfl ?_
  refine cv_bipush (v := nI 40) dX1_init_45 (by decide) ?_
  refine cv_newL (N := 40) (k := 6) dX1_init_47 rfl (by decide) rfl (by decide) rfl rfl rfl (by decide) (Nat.le_of_ble_eq_true rfl) (Nat.le_of_ble_eq_true rfl) ?_
  refine cv_putF (hp' := [.inr (1, [.ref 1, .ref 2, .ref 3, .ref 4, .ref 5, .ref 6, .null, .null, .long 0, .long 0, .long 0]), .inl (1, 40, .inr (.inl (fun _ => 0))), .inl (1, 40, .inr (.inl (fun _ => 0))), .inl (1, 40, .inr (.inl (fun _ => 0))), .inl (1, 40, .inr (.inl (fun _ => 0))), .inl (1, 40, .inr (.inl (fun _ => 0))), .inl (1, 40, .inr (.inl (fun _ => 0)))]) dX1_init_49 Ff_X1_27 rfl rfl (fun _ => rfl) (fun _ => rfl) rfl ?_
  refine cv_aload dX1_init_52 rfl ?_
  refine cv_bipush (v := nI 40) dX1_init_53 (by decide) ?_
  refine cv_newL (N := 40) (k := 7) dX1_init_55 rfl (by decide) rfl (by decide) rfl rfl rfl (by decide) (Nat.le_of_ble_eq_true rfl) (Nat.le_of_ble_eq_true rfl) ?_
  refine cv_putF (hp' := [.inr (1, [.ref 1, .ref 2, .ref 3, .ref 4, .ref 5, .ref 6, .ref 7, .null, .long 0, .long 0, .long 0]), .inl (1, 40, .inr (.inl (fun _ => 0))), .inl (1, 40, .inr (.inl (fun _ => 0))), .inl (1, 40, .inr (.inl (fun _ => 0))), .inl (1, 40, .inr (.inl (fun _ => 0))), .inl (1, 40, .inr (.inl (fun _ => 0))), .inl (1, 40, .inr (.inl (fun _ => 0))), .inl (1, 40, .inr (.inl (fun _ => 0)))]) dX1_init_57 Ff_X1_30 rfl rfl (fun _ => rfl) (fun _ => rfl) rfl ?_
  refine cv_aload dX1_init_60 rfl ?_
  refine cv_bipush (v := nI 40) dX1_init_61 (by decide) ?_
  refine cv_newL (N := 40) (k := 8) dX1_init_63 rfl (by decide) rfl (by decide) rfl rfl rfl (by decide) (Nat.le_of_ble_eq_true rfl) (Nat.le_of_ble_eq_true rfl) ?_
  refine cv_putF (hp' := [.inr (1, [.ref 1, .ref 2, .ref 3, .ref 4, .ref 5, .ref 6, .ref 7, .ref 8, .long 0, .long 0, .long 0]), .inl (1, 40, .inr (.inl (fun _ => 0))), .inl (1, 40, .inr (.inl (fun _ => 0))), .inl (1, 40, .inr (.inl (fun _ => 0))), .inl (1, 40, .inr (.inl (fun _ => 0))), .inl (1, 40, .inr (.inl (fun _ => 0))), .inl (1, 40, .inr (.inl (fun _ => 0))), .inl (1, 40, .inr (.inl (fun _ => 0))), .inl (1, 40, .inr (.inl (fun _ => 0)))]) dX1_init_65 Ff_X1_33 rfl rfl (fun _ => rfl) (fun _ => rfl) rfl ?_
  exact cv_ret dX1_init_68 rfl
theorem Oi_X5 : Cond.methodLink RX5 3 objectInit ∈ Ts := ts_in (List.mem_of_getElem? (i := 244) (by decide +kernel)) rfl
theorem Ff_X5_9 : Ff RX5 9 5 0 (.array .int) := ⟨_, _, _, Cok_5, by decide, ts_in (List.mem_of_getElem? (i := 245) (by decide +kernel)) rfl, rfl, rfl, by decide +kernel⟩
theorem Ff_X5_15 : Ff RX5 15 5 1 (.array .int) := ⟨_, _, _, Cok_5, by decide, ts_in (List.mem_of_getElem? (i := 246) (by decide +kernel)) rfl, rfl, rfl, by decide +kernel⟩
theorem Ff_X5_18 : Ff RX5 18 5 2 (.array .int) := ⟨_, _, _, Cok_5, by decide, ts_in (List.mem_of_getElem? (i := 247) (by decide +kernel)) rfl, rfl, rfl, by decide +kernel⟩
abbrev mX5_init : MD := (yX5_init, cX5_init, 1, none, { frames := 1, cells := 3, slots := 180, locals := 12 })
theorem Mi_X5 : Mi mX5_init 0 3 180 := ⟨ts_in (List.mem_of_getElem? (i := 243) (by decide +kernel)) rfl, ts_in (List.mem_of_getElem? (i := 71) (by decide +kernel)) rfl, ⟨by decide +kernel, by decide +kernel⟩, by decide +kernel, rfl, rfl, rfl, ts_in (List.mem_of_getElem? (i := 242) (by decide +kernel)) rfl, rfl⟩
def hpX5 : List va_E := [.inr (5, [.ref 1, .ref 2, .ref 3, .int 0, .int 0]), .inl (0, 60, .inl (fun _ => 0)), .inl (0, 60, .inl (fun _ => 0)), .inl (0, 60, .inl (fun _ => 0))]
theorem ci_X5 (g : GG) : Ci g mX5_init [.ref 0] [.inr (5, [.null, .null, .null, .int 0, .int 0])] hpX5 1 3 180 := by
  refine ci_of rfl rfl rfl ?_
  show Cv g 1 hpX5 3 180 mX5_init 0 0 0 [(0, .ref 0)] [] [.inr (5, [.null, .null, .null, .int 0, .int 0])]
  refine cv_aload dX5_init_0 rfl ?_
  refine cv_obj dX5_init_1 Oi_X5 (Nat.le_of_ble_eq_true rfl) (Nat.le_of_ble_eq_true rfl) ?_
  refine cv_aload dX5_init_4 rfl ?_
  refine cv_bipush (v := nI 60) dX5_init_5 (by decide) ?_
  refine cv_newI (N := 60) (k := 1) dX5_init_7 rfl (by decide) rfl (by decide) rfl rfl rfl (by decide) (Nat.le_of_ble_eq_true rfl) (Nat.le_of_ble_eq_true rfl) ?_
  refine cv_putF (hp' := [.inr (5, [.ref 1, .null, .null, .int 0, .int 0]), .inl (0, 60, .inl (fun _ => 0))]) dX5_init_9 Ff_X5_9 rfl rfl (fun _ => rfl) (fun _ => rfl) rfl ?_
  refine cv_aload dX5_init_12 rfl ?_
  refine cv_bipush (v := nI 60) dX5_init_13 (by decide) ?_
  refine cv_newI (N := 60) (k := 2) dX5_init_15 rfl (by decide) rfl (by decide) rfl rfl rfl (by decide) (Nat.le_of_ble_eq_true rfl) (Nat.le_of_ble_eq_true rfl) ?_
  refine cv_putF (hp' := [.inr (5, [.ref 1, .ref 2, .null, .int 0, .int 0]), .inl (0, 60, .inl (fun _ => 0)), .inl (0, 60, .inl (fun _ => 0))]) dX5_init_17 Ff_X5_15 rfl rfl (fun _ => rfl) (fun _ => rfl) rfl ?_
  refine cv_aload dX5_init_20 rfl ?_
  refine cv_bipush (v := nI 60) dX5_init_21 (by decide) ?_
  refine cv_newI (N := 60) (k := 3) dX5_init_23 rfl (by decide) rfl (by decide) rfl rfl rfl (by decide) (Nat.le_of_ble_eq_true rfl) (Nat.le_of_ble_eq_true rfl) ?_
  refine cv_putF (hp' := [.inr (5, [.ref 1, .ref 2, .ref 3, .int 0, .int 0]), .inl (0, 60, .inl (fun _ => 0)), .inl (0, 60, .inl (fun _ => 0)), .inl (0, 60, .inl (fun _ => 0))]) dX5_init_25 Ff_X5_18 rfl rfl (fun _ => rfl) (fun _ => rfl) rfl ?_
  exact cv_ret dX5_init_28 rfl
theorem Oi_X6 : Cond.methodLink RX6 3 objectInit ∈ Ts := ts_in (List.mem_of_getElem? (i := 268) (by decide +kernel)) rfl
theorem Ff_X6_9 : Ff RX6 9 6 0 (.array .int) := ⟨_, _, _, Cok_6, by decide, ts_in (List.mem_of_getElem? (i := 269) (by decide +kernel)) rfl, rfl, rfl, by decide +kernel⟩
theorem Ff_X6_15 : Ff RX6 15 6 1 (.array .int) := ⟨_, _, _, Cok_6, by decide, ts_in (List.mem_of_getElem? (i := 270) (by decide +kernel)) rfl, rfl, rfl, by decide +kernel⟩
theorem Ff_X6_18 : Ff RX6 18 6 2 (.array .int) := ⟨_, _, _, Cok_6, by decide, ts_in (List.mem_of_getElem? (i := 271) (by decide +kernel)) rfl, rfl, rfl, by decide +kernel⟩
theorem Ff_X6_21 : Ff RX6 21 6 3 (.array .int) := ⟨_, _, _, Cok_6, by decide, ts_in (List.mem_of_getElem? (i := 272) (by decide +kernel)) rfl, rfl, rfl, by decide +kernel⟩
abbrev mX6_init : MD := (yX6_init, cX6_init, 1, none, { frames := 1, cells := 4, slots := 2803, locals := 12 })
theorem Mi_X6 : Mi mX6_init 0 4 2803 := ⟨ts_in (List.mem_of_getElem? (i := 267) (by decide +kernel)) rfl, ts_in (List.mem_of_getElem? (i := 72) (by decide +kernel)) rfl, ⟨by decide +kernel, by decide +kernel⟩, by decide +kernel, rfl, rfl, rfl, ts_in (List.mem_of_getElem? (i := 266) (by decide +kernel)) rfl, rfl⟩
def hpX6 : List va_E := [.inr (6, [.ref 1, .ref 2, .ref 3, .ref 4, .int 0, .int 0, .int 0, .int 0]), .inl (0, 16, .inl (fun _ => 0)), .inl (0, 16, .inl (fun _ => 0)), .inl (0, 2754, .inl (fun _ => 0)), .inl (0, 17, .inl (fun _ => 0))]
theorem ci_X6 (g : GG) : Ci g mX6_init [.ref 0] [.inr (6, [.null, .null, .null, .null, .int 0, .int 0, .int 0, .int 0])] hpX6 1 4 2803 := by
  refine ci_of rfl rfl rfl ?_
  show Cv g 1 hpX6 4 2803 mX6_init 0 0 0 [(0, .ref 0)] [] [.inr (6, [.null, .null, .null, .null, .int 0, .int 0, .int 0, .int 0])]
  refine cv_aload dX6_init_0 rfl ?_
  refine cv_obj dX6_init_1 Oi_X6 (Nat.le_of_ble_eq_true rfl) (Nat.le_of_ble_eq_true rfl) ?_
  refine cv_aload dX6_init_4 rfl ?_
  refine cv_bipush (v := nI 16) dX6_init_5 (by decide) ?_
  refine cv_newI (N := 16) (k := 1) dX6_init_7 rfl (by decide) rfl (by decide) rfl rfl rfl (by decide) (Nat.le_of_ble_eq_true rfl) (Nat.le_of_ble_eq_true rfl) ?_
  refine cv_putF (hp' := [.inr (6, [.ref 1, .null, .null, .null, .int 0, .int 0, .int 0, .int 0]), .inl (0, 16, .inl (fun _ => 0))]) dX6_init_9 Ff_X6_9 rfl rfl (fun _ => rfl) (fun _ => rfl) rfl ?_
  refine cv_aload dX6_init_12 rfl ?_
  refine cv_bipush (v := nI 16) dX6_init_13 (by decide) ?_
  refine cv_newI (N := 16) (k := 2) dX6_init_15 rfl (by decide) rfl (by decide) rfl rfl rfl (by decide) (Nat.le_of_ble_eq_true rfl) (Nat.le_of_ble_eq_true rfl) ?_
  refine cv_putF (hp' := [.inr (6, [.ref 1, .ref 2, .null, .null, .int 0, .int 0, .int 0, .int 0]), .inl (0, 16, .inl (fun _ => 0)), .inl (0, 16, .inl (fun _ => 0))]) dX6_init_17 Ff_X6_15 rfl rfl (fun _ => rfl) (fun _ => rfl) rfl ?_
  refine cv_aload dX6_init_20 rfl ?_
  refine cv_sipush (v := nI 2754) dX6_init_21 (by decide) ?_
  refine cv_newI (N := 2754) (k := 3) dX6_init_24 rfl (by decide) rfl (by decide) rfl rfl rfl (by decide) (Nat.le_of_ble_eq_true rfl) (Nat.le_of_ble_eq_true rfl) ?_
  refine cv_putF (hp' := [.inr (6, [.ref 1, .ref 2, .ref 3, .null, .int 0, .int 0, .int 0, .int 0]), .inl (0, 16, .inl (fun _ => 0)), .inl (0, 16, .inl (fun _ => 0)), .inl (0, 2754, .inl (fun _ => 0))]) dX6_init_26 Ff_X6_18 rfl rfl (fun _ => rfl) (fun _ => rfl) rfl ?_
  refine cv_aload dX6_init_29 rfl ?_
  refine cv_bipush (v := nI 17) dX6_init_30 (by decide) ?_
  refine cv_newI (N := 17) (k := 4) dX6_init_32 rfl (by decide) rfl (by decide) rfl rfl rfl (by decide) (Nat.le_of_ble_eq_true rfl) (Nat.le_of_ble_eq_true rfl) ?_
  refine cv_putF (hp' := [.inr (6, [.ref 1, .ref 2, .ref 3, .ref 4, .int 0, .int 0, .int 0, .int 0]), .inl (0, 16, .inl (fun _ => 0)), .inl (0, 16, .inl (fun _ => 0)), .inl (0, 2754, .inl (fun _ => 0)), .inl (0, 17, .inl (fun _ => 0))]) dX6_init_34 Ff_X6_21 rfl rfl (fun _ => rfl) (fun _ => rfl) rfl ?_
  exact cv_ret dX6_init_37 rfl
theorem Oi_X8 : Cond.methodLink RX8 3 objectInit ∈ Ts := ts_in (List.mem_of_getElem? (i := 300) (by decide +kernel)) rfl
theorem Ff_X8_9 : Ff RX8 9 8 0 (.array .int) := ⟨_, _, _, Cok_8, by decide, ts_in (List.mem_of_getElem? (i := 312) (by decide +kernel)) rfl, rfl, rfl, by decide +kernel⟩
theorem Ff_X8_15 : Ff RX8 15 8 1 (.array .int) := ⟨_, _, _, Cok_8, by decide, ts_in (List.mem_of_getElem? (i := 315) (by decide +kernel)) rfl, rfl, rfl, by decide +kernel⟩
theorem Ff_X8_18 : Ff RX8 18 8 2 (.array .int) := ⟨_, _, _, Cok_8, by decide, ts_in (List.mem_of_getElem? (i := 316) (by decide +kernel)) rfl, rfl, rfl, by decide +kernel⟩
abbrev mX8_init : MD := (yX8_init, cX8_init, 1, none, { frames := 2, cells := 3, slots := 13, locals := 43 })
theorem Mi_X8 : Mi mX8_init 0 3 13 := ⟨ts_in (List.mem_of_getElem? (i := 299) (by decide +kernel)) rfl, ts_in (List.mem_of_getElem? (i := 73) (by decide +kernel)) rfl, ⟨by decide +kernel, by decide +kernel⟩, by decide +kernel, rfl, rfl, rfl, ts_in (List.mem_of_getElem? (i := 298) (by decide +kernel)) rfl, rfl⟩
def hpX8 : List va_E := [.inr (8, [.ref 1, .ref 2, .ref 3, .int (-1), .int 0]), .inl (0, 5, .inl (fillF 5 0 (fun _ => 0))), .inl (0, 4, .inl (up4T (fun _ => 0))), .inl (0, 4, .inl (lo4T (fun _ => 0)))]
theorem ci_X8 (g : GG) : Ci g mX8_init [.ref 0] [.inr (8, [.null, .null, .null, .int 0, .int 0])] hpX8 1 3 13 := by
  refine ci_of rfl rfl rfl ?_
  show Cv g 1 hpX8 3 13 mX8_init 0 0 0 [(0, .ref 0)] [] [.inr (8, [.null, .null, .null, .int 0, .int 0])]
  refine cv_aload dX8_init_0 rfl ?_
  refine cv_obj dX8_init_1 Oi_X8 (Nat.le_of_ble_eq_true rfl) (Nat.le_of_ble_eq_true rfl) ?_
  refine cv_aload dX8_init_4 rfl ?_
  refine cv_iconst (v := nI 5) dX8_init_5 (by decide) ?_
  refine cv_newI (N := 5) (k := 1) dX8_init_6 rfl (by decide) rfl (by decide) rfl rfl rfl (by decide) (Nat.le_of_ble_eq_true rfl) (Nat.le_of_ble_eq_true rfl) ?_
  refine cv_putF (hp' := [.inr (8, [.ref 1, .null, .null, .int 0, .int 0]), .inl (0, 5, .inl (fun _ => 0))]) dX8_init_8 Ff_X8_9 rfl rfl (fun _ => rfl) (fun _ => rfl) rfl ?_
  refine cv_aload dX8_init_11 rfl ?_
  refine cv_iconst (v := nI 4) dX8_init_12 (by decide) ?_
  refine cv_newI (N := 4) (k := 2) dX8_init_13 rfl (by decide) rfl (by decide) rfl rfl rfl (by decide) (Nat.le_of_ble_eq_true rfl) (Nat.le_of_ble_eq_true rfl) ?_
  refine cv_putF (hp' := [.inr (8, [.ref 1, .ref 2, .null, .int 0, .int 0]), .inl (0, 5, .inl (fun _ => 0)), .inl (0, 4, .inl (fun _ => 0))]) dX8_init_15 Ff_X8_15 rfl rfl (fun _ => rfl) (fun _ => rfl) rfl ?_
  refine cv_aload dX8_init_18 rfl ?_
  refine cv_iconst (v := nI 4) dX8_init_19 (by decide) ?_
  refine cv_newI (N := 4) (k := 3) dX8_init_20 rfl (by decide) rfl (by decide) rfl rfl rfl (by decide) (Nat.le_of_ble_eq_true rfl) (Nat.le_of_ble_eq_true rfl) ?_
  refine cv_putF (hp' := [.inr (8, [.ref 1, .ref 2, .ref 3, .int 0, .int 0]), .inl (0, 5, .inl (fun _ => 0)), .inl (0, 4, .inl (fun _ => 0)), .inl (0, 4, .inl (fun _ => 0))]) dX8_init_22 Ff_X8_18 rfl rfl (fun _ => rfl) (fun _ => rfl) rfl ?_
  refine cv_aload dX8_init_25 rfl ?_
  refine cv_callV (as := []) (rest := []) (q := 0) (hp' := [.inr (8, [.ref 1, .ref 2, .ref 3, .int (-1), .int 0]), .inl (0, 5, .inl (fillF 5 0 (fun _ => 0))), .inl (0, 4, .inl (up4T (fun _ => 0))), .inl (0, 4, .inl (lo4T (fun _ => 0)))]) dX8_init_26 Ml_X8_21 M_X8_reset rfl rfl rfl ⟨(Nat.le_of_ble_eq_true rfl), (Nat.le_of_ble_eq_true rfl)⟩ rfl rfl (fun g' => c_reset4 (pr := fun _ => 0) (up := fun _ => 0) (lo := fun _ => 0) (q := 0) (n := 0)) ?_
  exact cv_ret dX8_init_29 rfl
theorem Oi_X2 : Cond.methodLink RX2 3 objectInit ∈ Ts := ts_in (List.mem_of_getElem? (i := 339) (by decide +kernel)) rfl
theorem Ff_X2_9 : Ff RX2 9 2 0 (.object "MillFarmers$Tape") := ⟨_, _, _, Cok_2, by decide, ts_in (List.mem_of_getElem? (i := 340) (by decide +kernel)) rfl, rfl, rfl, by decide +kernel⟩
abbrev mX2_init : MD := (yX2_init, cX2_init, 3, none, { frames := 1, cells := 0, slots := 0, locals := 12 })
theorem Mi_X2 : Mi mX2_init 2 0 0 := ⟨ts_in (List.mem_of_getElem? (i := 338) (by decide +kernel)) rfl, ts_in (List.mem_of_getElem? (i := 75) (by decide +kernel)) rfl, ⟨by decide +kernel, by decide +kernel⟩, by decide +kernel, rfl, rfl, rfl, ts_in (List.mem_of_getElem? (i := 337) (by decide +kernel)) rfl, rfl⟩
def hpX2 : List va_E := [.inr (2, [.ref 1, .ref 2, .int 0, .int 0, .int 0])]
theorem ci_X2 (g : GG) : Ci g mX2_init [.ref 0, .ref 1, .ref 2] [.inr (2, [.null, .null, .int 0, .int 0, .int 0])] hpX2 3 0 0 := by
  refine ci_of rfl rfl rfl ?_
  show Cv g 3 hpX2 0 0 mX2_init 0 0 0 [(0, .ref 0), (1, .ref 1), (2, .ref 2)] [] [.inr (2, [.null, .null, .int 0, .int 0, .int 0])]
  refine cv_aload dX2_init_0 rfl ?_
  refine cv_obj dX2_init_1 Oi_X2 (Nat.le_of_ble_eq_true rfl) (Nat.le_of_ble_eq_true rfl) ?_
  refine cv_aload dX2_init_4 rfl ?_
  refine cv_aload dX2_init_5 rfl ?_
  refine cv_putF (hp' := [.inr (2, [.ref 1, .null, .int 0, .int 0, .int 0])]) dX2_init_6 Ff_X2_9 rfl rfl (fun _ => rfl) (fun _ => rfl) rfl ?_
  refine cv_aload dX2_init_9 rfl ?_
  refine cv_aload dX2_init_10 rfl ?_
  refine cv_putf (hp' := [.inr (2, [.ref 1, .ref 2, .int 0, .int 0, .int 0])]) dX2_init_11 Fp_X2_15 rfl rfl (fun _ => rfl) (fun _ => rfl) rfl ?_
  exact cv_ret dX2_init_14 rfl
end CINS
