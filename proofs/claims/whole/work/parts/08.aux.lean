/-! helpers of the walk: places in plain numbers, constants, stores, calls with and without an answer -/
theorem pn (pc' : Nat) {M : Mt} {sc : Option (Nat × (Nat → Int32))} {pc : Nat} {lv st : List Value} {w : Wd} {r : Option Value} {w' : Wd} (h : pc = pc') (k : EW M sc pc' lv st w r w') : EW M sc pc lv st w r w' := h ▸ k
theorem e_ic (v : Int32) {M : Mt} {sc : Option (Nat × (Nat → Int32))} {pc : Nat} {lv st : List Value} {w : Wd} {r : Option Value} {w' : Wd} {n : Int} (hd : decode M.2.2.1 pc = .ok (.iconst n, 1)) (hv : Int32.ofInt n = v) (k : EW M sc (pc + 1) lv (.int v :: st) w r w') : EW M sc pc lv st w r w' := by
  subst hv; exact e_iconst hd k
theorem e_bi (v : Int32) {M : Mt} {sc : Option (Nat × (Nat → Int32))} {pc : Nat} {lv st : List Value} {w : Wd} {r : Option Value} {w' : Wd} {n : Int} (hd : decode M.2.2.1 pc = .ok (.bipush n, 2)) (hv : (Int8.ofInt n).toInt32 = v) (k : EW M sc (pc + 2) lv (.int v :: st) w r w') : EW M sc pc lv st w r w' := by
  subst hv; exact e_bipush hd k
theorem e_si (v : Int32) {M : Mt} {sc : Option (Nat × (Nat → Int32))} {pc : Nat} {lv st : List Value} {w : Wd} {r : Option Value} {w' : Wd} {n : Int} (hd : decode M.2.2.1 pc = .ok (.sipush n, 3)) (hv : (Int16.ofInt n).toInt32 = v) (k : EW M sc (pc + 3) lv (.int v :: st) w r w') : EW M sc pc lv st w r w' := by
  subst hv; exact e_sipush hd k
theorem e_lc (v : Int64) {M : Mt} {sc : Option (Nat × (Nat → Int32))} {pc : Nat} {lv st : List Value} {w : Wd} {r : Option Value} {w' : Wd} {n : Fin 2} (hd : decode M.2.2.1 pc = .ok (.lconst n, 1)) (hv : Int64.ofNat (n : Nat) = v) (k : EW M sc (pc + 1) lv (.long v :: st) w r w') : EW M sc pc lv st w r w' := by
  subst hv; exact e_lconst hd k
theorem s_in (lv' : List Value) {M : Mt} {sc : Option (Nat × (Nat → Int32))} {pc : Nat} {lv st : List Value} {w : Wd} {r : Option Value} {w' : Wd} {n : Fin 4} {x : Int32} (hd : decode M.2.2.1 pc = .ok (.istore_n n, 1)) (hn9 : (n : Nat) < M.2.2.2.1) (hlv : lset lv n (.int x) = lv') (k : EW M sc (pc + 1) lv' st w r w') : EW M sc pc lv (.int x :: st) w r w' := by
  subst hlv; exact e_istore_n hd hn9 k
theorem s_i (lv' : List Value) {M : Mt} {sc : Option (Nat × (Nat → Int32))} {pc : Nat} {lv st : List Value} {w : Wd} {r : Option Value} {w' : Wd} {n : Nat} {x : Int32} (hd : decode M.2.2.1 pc = .ok (.istore n, 2)) (hn9 : n < M.2.2.2.1) (hlv : lset lv n (.int x) = lv') (k : EW M sc (pc + 2) lv' st w r w') : EW M sc pc lv (.int x :: st) w r w' := by
  subst hlv; exact e_istore hd hn9 k
theorem s_an (lv' : List Value) {M : Mt} {sc : Option (Nat × (Nat → Int32))} {pc : Nat} {lv st : List Value} {w : Wd} {r : Option Value} {w' : Wd} {n : Fin 4} {x : Nat} (hd : decode M.2.2.1 pc = .ok (.astore_n n, 1)) (hn9 : (n : Nat) < M.2.2.2.1) (hlv : lset lv n (.ref x) = lv') (k : EW M sc (pc + 1) lv' st w r w') : EW M sc pc lv (.ref x :: st) w r w' := by
  subst hlv; exact e_astore_n hd hn9 k
theorem s_a (lv' : List Value) {M : Mt} {sc : Option (Nat × (Nat → Int32))} {pc : Nat} {lv st : List Value} {w : Wd} {r : Option Value} {w' : Wd} {n : Nat} {x : Nat} (hd : decode M.2.2.1 pc = .ok (.astore n, 2)) (hn9 : n < M.2.2.2.1) (hlv : lset lv n (.ref x) = lv') (k : EW M sc (pc + 2) lv' st w r w') : EW M sc pc lv (.ref x :: st) w r w' := by
  subst hlv; exact e_astore hd hn9 k
theorem s_ln (lv' : List Value) {M : Mt} {sc : Option (Nat × (Nat → Int32))} {pc : Nat} {lv st : List Value} {w : Wd} {r : Option Value} {w' : Wd} {n : Fin 4} {x : Int64} (hd : decode M.2.2.1 pc = .ok (.lstore_n n, 1)) (hn9 : (n : Nat) + 1 < M.2.2.2.1) (hlv : lset2 lv n (.long x) = lv') (k : EW M sc (pc + 1) lv' st w r w') : EW M sc pc lv (.long x :: st) w r w' := by
  subst hlv; exact e_lstore_n hd hn9 k
theorem s_l (lv' : List Value) {M : Mt} {sc : Option (Nat × (Nat → Int32))} {pc : Nat} {lv st : List Value} {w : Wd} {r : Option Value} {w' : Wd} {n : Nat} {x : Int64} (hd : decode M.2.2.1 pc = .ok (.lstore n, 2)) (hn9 : n + 1 < M.2.2.2.1) (hlv : lset2 lv n (.long x) = lv') (k : EW M sc (pc + 2) lv' st w r w') : EW M sc pc lv (.long x :: st) w r w' := by
  subst hlv; exact e_lstore hd hn9 k
theorem s_inc (lv' : List Value) {M : Mt} {sc : Option (Nat × (Nat → Int32))} {pc : Nat} {lv st : List Value} {w : Wd} {r : Option Value} {w' : Wd} {i : Nat} {n : Int} {x : Int32} (v : Int32) (hd : decode M.2.2.1 pc = .ok (.iinc i n, 3)) (hv : Int32.ofInt n = v) (hl : lv[i]? = some (.int x)) (hn9 : i < M.2.2.2.1) (hlv : lset lv i (.int (x + v)) = lv') (k : EW M sc (pc + 3) lv' st w r w') : EW M sc pc lv st w r w' := by
  subst hlv; subst hv; exact e_iinc hd hl hn9 k
theorem e_dr (lv' : List Value) {M : Mt} {sc : Option (Nat × (Nat → Int32))} {pc : Nat} {lv st : List Value} {w : Wd} {r : Option Value} {w' : Wd} (i : Nat) (h : lv.set i dmy = lv') (k : EW M sc pc lv' st w r w') : EW M sc pc lv st w r w' := by
  subst h; exact e_drop i k
theorem c_V1 {M M' : Mt} {sc : Option (Nat × (Nat → Int32))} {pc idx i ci n : Nat} {lv st As rest fs : List Value} {w w1 : Wd} {r : Option Value} {v : Value} {w' : Wd} (hd : decode M.2.2.1 pc = .ok (.invokevirtual idx, 3)) (hl : mLk M.1 idx M'.2.1) (hf : mV M' n ci) (hdp : M'.2.2.2.2.2 + 1 ≤ M.2.2.2.2.2)
    (hc : CW M' (.ref i :: As) w (some v) w1) (hw : w[i]? = some (oB ci fs)) (hst : st = As.reverse ++ .ref i :: rest) (hlen : As.length = n) (hsum : (rest.map Value.category).sum ≤ 8) (kk : EW M sc (pc + 3) lv (v :: rest) w1 r w') : EW M sc pc lv st w r w' := c_V hd hl hf hdp hc hw hst hlen hsum kk
theorem c_V0 {M M' : Mt} {sc : Option (Nat × (Nat → Int32))} {pc idx i ci n : Nat} {lv st As rest fs : List Value} {w w1 : Wd} {r : Option Value} {w' : Wd} (hd : decode M.2.2.1 pc = .ok (.invokevirtual idx, 3)) (hl : mLk M.1 idx M'.2.1) (hf : mV M' n ci) (hdp : M'.2.2.2.2.2 + 1 ≤ M.2.2.2.2.2)
    (hc : CW M' (.ref i :: As) w none w1) (hw : w[i]? = some (oB ci fs)) (hst : st = As.reverse ++ .ref i :: rest) (hlen : As.length = n) (hsum : (rest.map Value.category).sum ≤ 8) (kk : EW M sc (pc + 3) lv rest w1 r w') : EW M sc pc lv st w r w' := c_V hd hl hf hdp hc hw hst hlen hsum kk
theorem c_S1 {M M' : Mt} {sc : Option (Nat × (Nat → Int32))} {pc idx n : Nat} {lv st As rest : List Value} {w w1 : Wd} {r : Option Value} {v : Value} {w' : Wd} (hd : decode M.2.2.1 pc = .ok (.invokestatic idx, 3)) (hl : mLk M.1 idx M'.2.1) (hf : mS M' n) (hdp : M'.2.2.2.2.2 + 1 ≤ M.2.2.2.2.2)
    (hc : CW M' As w (some v) w1) (hst : st = As.reverse ++ rest) (hlen : As.length = n) (hsum : (rest.map Value.category).sum ≤ 8) (kk : EW M sc (pc + 3) lv (v :: rest) w1 r w') : EW M sc pc lv st w r w' := c_S hd hl hf hdp hc hst hlen hsum kk
theorem gse {w : Wd} {i : Nat} {e0 e : Cel} (h : w[i]? = some e0) : (w.set i e)[i]? = some e := List.getElem?_set_self (List.getElem?_eq_some_iff.mp h).1
theorem gne {w : Wd} {i j : Nat} {e x : Cel} (h : i ≠ j) (hw : w[j]? = some e) : (w.set i x)[j]? = some e := by rw [List.getElem?_set_ne h]; exact hw
theorem set_id {w : Wd} {i : Nat} {e : Cel} (h : w[i]? = some e) : w.set i e = w := by
  apply List.ext_getElem?
  intro j
  by_cases hj : i = j
  · subst hj
    rw [gse h, h]
  · rw [List.getElem?_set_ne hj]
theorem nz {w : Wd} {i c : Nat} {fs : List Value} (h0 : w[0]? = some scrC) (h : w[i]? = some (oB c fs)) : i ≠ 0 := fun e => by subst e; rw [h0] at h; cases h
/-! first methods, by hand -/
