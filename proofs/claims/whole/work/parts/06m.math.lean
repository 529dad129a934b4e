theorem e_mmax {M : Mt} {sc : Option (Nat × (Nat → Int32))} {pc idx : Nat} {lv st : List Value} {w : Wd} {r : Option Value} {w' : Wd} {x y : Int32} (hd : decode M.2.2.1 pc = .ok (.invokestatic idx, 3)) (h1 : Cond.methodLink M.1 idx Lib.Math.max.name ∈ lw_tbl) (hdp : 1 ≤ M.2.2.2.2.2) (hsum : (st.map Value.category).sum ≤ 8)
    (k : EW M sc (pc + 3) lv (.int (if x < y then y else x) :: st) w r w') : EW M sc pc lv (.int y :: .int x :: st) w r w' := by
  refine ⟨k.1, ?_⟩
  intro p l e R s m args below meth c Z dC dI cI cJ cR b B n0 t0 hC hn ht H locs ls hR hS hL
  have hts := hC.2.2.2.2.1
  have hrm := hC.2.2.2.2.2.2.2.2.1
  have k1 := k.1
  have hcs := sum_rv b B hsum
  exact va_mmax hC.1 hC.2.1 (by rw [hC.2.2.1, hL.1]) hC.2.2.2.1 (hts _ (TG_in h1 rfl)) (hts _ (TG_in (by decide +kernel : Cond.static Lib.Math.max.name ∈ lw_tbl) rfl)) (hts _ (TG_in (by decide +kernel : Cond.initialized "java/lang/Math" ∈ lw_tbl) rfl)) (hts _ (TG_in (by decide +kernel : Cond.code Lib.Math.max.name Lib.Math.max.code 2 (some .int) ∈ lw_tbl) rfl)) (by omega) (by omega) (by omega) (by omega) hd (k.2 p l e R s m args below meth c Z dC dI cI cJ cR b B n0 t0 hC hn ht H locs ls hR hS hL)
theorem e_mmin {M : Mt} {sc : Option (Nat × (Nat → Int32))} {pc idx : Nat} {lv st : List Value} {w : Wd} {r : Option Value} {w' : Wd} {x y : Int32} (hd : decode M.2.2.1 pc = .ok (.invokestatic idx, 3)) (h1 : Cond.methodLink M.1 idx Lib.Math.min.name ∈ lw_tbl) (hdp : 1 ≤ M.2.2.2.2.2) (hsum : (st.map Value.category).sum ≤ 8)
    (k : EW M sc (pc + 3) lv (.int (if y < x then y else x) :: st) w r w') : EW M sc pc lv (.int y :: .int x :: st) w r w' := by
  refine ⟨k.1, ?_⟩
  intro p l e R s m args below meth c Z dC dI cI cJ cR b B n0 t0 hC hn ht H locs ls hR hS hL
  have hts := hC.2.2.2.2.1
  have hrm := hC.2.2.2.2.2.2.2.2.1
  have k1 := k.1
  have hcs := sum_rv b B hsum
  exact va_mmin hC.1 hC.2.1 (by rw [hC.2.2.1, hL.1]) hC.2.2.2.1 (hts _ (TG_in h1 rfl)) (hts _ (TG_in (by decide +kernel : Cond.static Lib.Math.min.name ∈ lw_tbl) rfl)) (hts _ (TG_in (by decide +kernel : Cond.initialized "java/lang/Math" ∈ lw_tbl) rfl)) (hts _ (TG_in (by decide +kernel : Cond.code Lib.Math.min.name Lib.Math.min.code 2 (some .int) ∈ lw_tbl) rfl)) (by omega) (by omega) (by omega) (by omega) hd (k.2 p l e R s m args below meth c Z dC dI cI cJ cR b B n0 t0 hC hn ht H locs ls hR hS hL)
theorem e_lmin {M : Mt} {sc : Option (Nat × (Nat → Int32))} {pc idx : Nat} {lv st : List Value} {w : Wd} {r : Option Value} {w' : Wd} {x y : Int64} (hd : decode M.2.2.1 pc = .ok (.invokestatic idx, 3)) (h1 : Cond.methodLink M.1 idx Lib.MathLoose.min_long.x ∈ lw_tbl) (hdp : 1 ≤ M.2.2.2.2.2) (hsum : (st.map Value.category).sum ≤ 8)
    (k : EW M sc (pc + 3) lv (.long (if y < x then y else x) :: st) w r w') : EW M sc pc lv (.long y :: .long x :: st) w r w' := by
  refine ⟨k.1, ?_⟩
  intro p l e R s m args below meth c Z dC dI cI cJ cR b B n0 t0 hC hn ht H locs ls hR hS hL
  have hts := hC.2.2.2.2.1
  have hrm := hC.2.2.2.2.2.2.2.2.1
  have k1 := k.1
  have hcs := sum_rv b B hsum
  exact va_mmin_long hC.1 hC.2.1 (by rw [hC.2.2.1, hL.1]) hC.2.2.2.1 (hts _ (TG_in h1 rfl)) (hts _ (TG_in (by decide +kernel : Cond.static Lib.MathLoose.min_long.x ∈ lw_tbl) rfl)) (hts _ (TG_in (by decide +kernel : Cond.initialized "java/lang/Math" ∈ lw_tbl) rfl)) (hts _ (TG_in (by decide +kernel : Cond.code Lib.MathLoose.min_long.x Lib.MathLoose.min_long.code 4 (some .long) ∈ lw_tbl) rfl)) (by omega) (by omega) (by omega) (by omega) hd (k.2 p l e R s m args below meth c Z dC dI cI cJ cR b B n0 t0 hC hn ht H locs ls hR hS hL)
