theorem Mx_X1_128 : Cond.methodLink RX1 128 arraycopyName ∈ Ts := ts_in (List.mem_of_getElem? (i := 604) (by decide +kernel)) rfl
theorem Mxs_copy : Cond.static arraycopyName ∈ Ts := ts_in (List.mem_of_getElem? (i := 605) (by decide +kernel)) rfl
theorem Mxn_copy : Cond.native arraycopyName ∈ Ts := ts_in (List.mem_of_getElem? (i := 606) (by decide +kernel)) rfl
theorem Mx_X1_62 : Cond.methodLink RX1 62 Lib.MathLoose.min_long.x ∈ Ts := ts_in (List.mem_of_getElem? (i := 578) (by decide +kernel)) rfl
theorem Mxs_minJ : Cond.static Lib.MathLoose.min_long.x ∈ Ts := ts_in (List.mem_of_getElem? (i := 579) (by decide +kernel)) rfl
theorem Mxc_minJ : Cond.code Lib.MathLoose.min_long.x Lib.MathLoose.min_long.code 4 (some .long) ∈ Ts := ts_in (List.mem_of_getElem? (i := 580) (by decide +kernel)) rfl
theorem Mx_X1_94 : Cond.methodLink RX1 94 Lib.MathLoose.max_long.x ∈ Ts := ts_in (List.mem_of_getElem? (i := 581) (by decide +kernel)) rfl
theorem Mxs_maxJ : Cond.static Lib.MathLoose.max_long.x ∈ Ts := ts_in (List.mem_of_getElem? (i := 582) (by decide +kernel)) rfl
theorem Mxc_maxJ : Cond.code Lib.MathLoose.max_long.x Lib.MathLoose.max_long.code 4 (some .long) ∈ Ts := ts_in (List.mem_of_getElem? (i := 583) (by decide +kernel)) rfl
theorem Mx_X2_118 : Cond.methodLink RX2 118 Lib.Math.min.name ∈ Ts := ts_in (List.mem_of_getElem? (i := 527) (by decide +kernel)) rfl
theorem Mxs_minI : Cond.static Lib.Math.min.name ∈ Ts := ts_in (List.mem_of_getElem? (i := 528) (by decide +kernel)) rfl
theorem Mxc_minI : Cond.code Lib.Math.min.name Lib.Math.min.code 2 (some .int) ∈ Ts := ts_in (List.mem_of_getElem? (i := 529) (by decide +kernel)) rfl
theorem Mx_X2_88 : Cond.methodLink RX2 88 Lib.Math.max.name ∈ Ts := ts_in (List.mem_of_getElem? (i := 542) (by decide +kernel)) rfl
theorem Mxs_maxI : Cond.static Lib.Math.max.name ∈ Ts := ts_in (List.mem_of_getElem? (i := 543) (by decide +kernel)) rfl
theorem Mxc_maxI : Cond.code Lib.Math.max.name Lib.Math.max.code 2 (some .int) ∈ Ts := ts_in (List.mem_of_getElem? (i := 544) (by decide +kernel)) rfl
theorem Mx_X6_56 : Cond.methodLink RX6 56 Lib.Math.min.name ∈ Ts := ts_in (List.mem_of_getElem? (i := 694) (by decide +kernel)) rfl
section EVK
variable {g : GG} {M : MD} {pc : Nat} {lv : List (Nat × Value)} {st : List Value} {hp : List va_E} {Post : Option Value → List va_E → Prop}
theorem ev_keep (ks : List Nat) (k : Ev g M pc (lv.filter (fun q => ks.contains q.1)) st hp Post) : Ev g M pc lv st hp Post := ev_lv (fun q h => (List.mem_filter.mp h).1) k
end EVK
