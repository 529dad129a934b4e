/-! constructors: worlds that grow at their end -/
theorem gA {w0 xs : Wd} {c : Cel} {L k : Nat} (hL : w0.length = L) (j : Nat) (hk : L + j = k) (h : xs[j]? = some c) : (w0 ++ xs)[k]? = some c := by
  rw [← hk, List.getElem?_append_right (by omega), hL, Nat.add_sub_cancel_left]; exact h
theorem sA {w0 xs : Wd} {c : Cel} {L k : Nat} (hL : w0.length = L) (j : Nat) (hk : L + j = k) : (w0 ++ xs).set k c = w0 ++ xs.set j c := by
  rw [← hk, List.set_append_right _ _ (by omega), hL, Nat.add_sub_cancel_left]
theorem e_newA {M : Mt} {sc : Option (Nat × (Nat → Int32))} {pc : Nat} {lv st : List Value} {w0 xs : Wd} {r : Option Value} {w' : Wd} {idx ci : Nat} {fs : List Value} {L : Nat} (hL : w0.length = L) (k : Nat) (hk : L + xs.length = k) (hd : decode M.2.2.1 pc = .ok (.new idx, 3)) (hf : nNw M.1 idx ci fs) (kk : EW M sc (pc + 3) lv (.ref k :: st) (w0 ++ (xs ++ [oB ci fs])) r w') : EW M sc pc lv st (w0 ++ xs) r w' := by
  refine e_new hd hf ?_
  rw [List.append_assoc, List.length_append, hL, hk]; exact kk
theorem e_newIA {M : Mt} {sc : Option (Nat × (Nat → Int32))} {pc : Nat} {lv st : List Value} {w0 xs : Wd} {r : Option Value} {w' : Wd} {j : Int32} {L : Nat} (hL : w0.length = L) (k : Nat) (hk : L + xs.length = k) (n : Nat) (hd : decode M.2.2.1 pc = .ok (.newarray .int, 2)) (hj : j = nI n) (hn9 : n ≤ 1000000) (hcl : Cond.arrayClass .int ∈ lw_tbl)
    (kk : EW M sc (pc + 2) lv (.ref k :: st) (w0 ++ (xs ++ [aI n (fun _ => 0)])) r w') : EW M sc pc lv (.int j :: st) (w0 ++ xs) r w' := by
  refine e_newI n hd hj hn9 hcl ?_
  rw [List.append_assoc, List.length_append, hL, hk]; exact kk
theorem e_newJA {M : Mt} {sc : Option (Nat × (Nat → Int32))} {pc : Nat} {lv st : List Value} {w0 xs : Wd} {r : Option Value} {w' : Wd} {j : Int32} {L : Nat} (hL : w0.length = L) (k : Nat) (hk : L + xs.length = k) (n : Nat) (hd : decode M.2.2.1 pc = .ok (.newarray .long, 2)) (hj : j = nI n) (hn9 : n ≤ 1000000) (hcl : Cond.arrayClass .long ∈ lw_tbl)
    (kk : EW M sc (pc + 2) lv (.ref k :: st) (w0 ++ (xs ++ [aJ n (fun _ => 0)])) r w') : EW M sc pc lv (.int j :: st) (w0 ++ xs) r w' := by
  refine e_newJ n hd hj hn9 hcl ?_
  rw [List.append_assoc, List.length_append, hL, hk]; exact kk
theorem e_newRA {M : Mt} {sc : Option (Nat × (Nat → Int32))} {pc idx : Nat} {lv st : List Value} {w0 xs : Wd} {r : Option Value} {w' : Wd} {j : Int32} {L : Nat} (hL : w0.length = L) (k : Nat) (hk : L + xs.length = k) (n : Nat) (hd : decode M.2.2.1 pc = .ok (.anewarray idx, 3)) (hj : j = nI n) (hn9 : n ≤ 1000000) (hcl : Cond.classLink M.1 idx RX4 ∈ lw_tbl)
    (kk : EW M sc (pc + 3) lv (.ref k :: st) (w0 ++ (xs ++ [aR n (fun _ => none)])) r w') : EW M sc pc lv (.int j :: st) (w0 ++ xs) r w' := by
  refine e_newR n hd hj hn9 hcl ?_
  rw [List.append_assoc, List.length_append, hL, hk]; exact kk
theorem e_putFA {M : Mt} {sc : Option (Nat × (Nat → Int32))} {pc : Nat} {lv st : List Value} {w0 xs : Wd} {r : Option Value} {w' : Wd} {idx ci k i : Nat} {ty : FieldType} {fs : List Value} {v : Value} {L : Nat} (hL : w0.length = L) (j : Nat) (hk : L + j = i) (hd : decode M.2.2.1 pc = .ok (.putfield idx, 3)) (hf : fPf M.1 idx ci k ty) (hini : M.2.1.name = "<init>") (hw : xs[j]? = some (oB ci fs)) (hv : tyV ty v = true) (hl : k < fs.length)
    (kk : EW M sc (pc + 3) lv st (w0 ++ xs.set j (oB ci (fs.set k v))) r w') : EW M sc pc lv (v :: .ref i :: st) (w0 ++ xs) r w' := by
  refine e_putF hd hf hini (gA hL j hk hw) hv hl ?_
  rw [sA hL j hk]; exact kk
theorem e_putA {M : Mt} {sc : Option (Nat × (Nat → Int32))} {pc : Nat} {lv st : List Value} {w0 xs : Wd} {r : Option Value} {w' : Wd} {idx ci k i : Nat} {ty : FieldType} {fs : List Value} {v : Value} {L : Nat} (hL : w0.length = L) (j : Nat) (hk : L + j = i) (hd : decode M.2.2.1 pc = .ok (.putfield idx, 3)) (hf : fPt M.1 idx ci k ty) (hw : xs[j]? = some (oB ci fs)) (hv : tyV ty v = true) (hl : k < fs.length)
    (kk : EW M sc (pc + 3) lv st (w0 ++ xs.set j (oB ci (fs.set k v))) r w') : EW M sc pc lv (v :: .ref i :: st) (w0 ++ xs) r w' := by
  refine e_put hd hf (gA hL j hk hw) hv hl ?_
  rw [sA hL j hk]; exact kk
theorem cwA {M : Mt} {As : List Value} {w0 xs ys zs : Wd} {r : Option Value} (h : CW M As ((w0 ++ xs) ++ ys) r ((w0 ++ xs) ++ zs)) : CW M As (w0 ++ (xs ++ ys)) r (w0 ++ (xs ++ zs)) := by
  rw [List.append_assoc, List.append_assoc] at h; exact h
theorem i_code {w0 : Wd} (hL : w0.length = 15) : CW mX0_init [.ref 15] (w0 ++ [oB 0 [.null, .null, .null, .int 0, .int 0, .int 0, .int 0, .int 0, .int 0, .int 0]]) none (w0 ++ [cdF 18 2 0 1 0 0 1 0, rowW [], rowW [], aI 0 (fun _ => 0)]) := by
  refine cw_of (M := mX0_init) fx_X0_init (lv := [.ref 15]) rfl (Nat.le_of_ble_eq_true rfl) ?_
  refine e_aload_n dX0_init_0 rfl (pn 1 rfl ?_)
  refine e_oinit dX0_init_1 lo_X0 lo_i lo_c (by decide) (Nat.le_of_ble_eq_true rfl) (pn 4 rfl ?_)
  refine e_aload_n dX0_init_4 rfl (pn 5 rfl ?_)
  refine e_newA hL (16) rfl dX0_init_5 ln_X0_9 (pn 8 rfl ?_)
  refine e_dup dX0_init_8 rfl (pn 9 rfl ?_)
  refine c_I dX0_init_9 ml_X0_11 mi_X4_init (by decide) (by decide) (r_init _ 16) rfl rfl (Nat.le_of_ble_eq_true rfl) (pn 12 rfl ?_)
  refine e_putFA hL 0 rfl dX0_init_12 fp_X0_12 rfl rfl rfl (Nat.le_of_ble_eq_true rfl) (pn 15 rfl ?_)
  refine e_aload_n dX0_init_15 rfl (pn 16 rfl ?_)
  refine e_newA hL (17) rfl dX0_init_16 ln_X0_9 (pn 19 rfl ?_)
  refine e_dup dX0_init_19 rfl (pn 20 rfl ?_)
  refine c_I dX0_init_20 ml_X0_11 mi_X4_init (by decide) (by decide) (r_init _ 17) rfl rfl (Nat.le_of_ble_eq_true rfl) (pn 23 rfl ?_)
  refine e_putFA hL 0 rfl dX0_init_23 fp_X0_18 rfl rfl rfl (Nat.le_of_ble_eq_true rfl) (pn 26 rfl ?_)
  refine e_aload_n dX0_init_26 rfl (pn 27 rfl ?_)
  refine e_ic (0) dX0_init_27 (by decide) (pn 28 rfl ?_)
  refine e_newIA hL (18) rfl (0) dX0_init_28 rfl (by decide) la_I (pn 30 rfl ?_)
  refine e_putA hL 0 rfl dX0_init_30 fp_X0_21 rfl rfl (Nat.le_of_ble_eq_true rfl) (pn 33 rfl ?_)
  refine e_aload_n dX0_init_33 rfl (pn 34 rfl ?_)
  refine e_ic (2) dX0_init_34 (by decide) (pn 35 rfl ?_)
  refine e_putA hL 0 rfl dX0_init_35 fp_X0_25 rfl rfl (Nat.le_of_ble_eq_true rfl) (pn 38 rfl ?_)
  refine e_aload_n dX0_init_38 rfl (pn 39 rfl ?_)
  refine e_ic (1) dX0_init_39 (by decide) (pn 40 rfl ?_)
  refine e_putA hL 0 rfl dX0_init_40 fp_X0_29 rfl rfl (Nat.le_of_ble_eq_true rfl) (pn 43 rfl ?_)
  refine e_aload_n dX0_init_43 rfl (pn 44 rfl ?_)
  refine e_ic (1) dX0_init_44 (by decide) (pn 45 rfl ?_)
  refine e_putA hL 0 rfl dX0_init_45 fp_X0_32 rfl rfl (Nat.le_of_ble_eq_true rfl) (pn 48 rfl ?_)
  exact e_vret dX0_init_48 rfl rfl rfl
theorem i_parts {w0 : Wd} (hL : w0.length = 19) : CW mX3_init [.ref 19] (w0 ++ [oB 3 [.null, .null]]) none (w0 ++ [oB 3 [.ref 20, .ref 21], aJ 25 (fun _ => 0), aJ 175 (fun _ => 0)]) := by
  refine cw_of (M := mX3_init) fx_X3_init (lv := [.ref 19]) rfl (Nat.le_of_ble_eq_true rfl) ?_
  refine e_aload_n dX3_init_0 rfl (pn 1 rfl ?_)
  refine e_oinit dX3_init_1 lo_X3 lo_i lo_c (by decide) (Nat.le_of_ble_eq_true rfl) (pn 4 rfl ?_)
  refine e_aload_n dX3_init_4 rfl (pn 5 rfl ?_)
  refine e_bi (25) dX3_init_5 (by decide) (pn 7 rfl ?_)
  refine e_newJA hL (20) rfl (25) dX3_init_7 rfl (by decide) la_J (pn 9 rfl ?_)
  refine e_putFA hL 0 rfl dX3_init_9 fp_X3_9 rfl rfl rfl (Nat.le_of_ble_eq_true rfl) (pn 12 rfl ?_)
  refine e_aload_n dX3_init_12 rfl (pn 13 rfl ?_)
  refine e_si (175) dX3_init_13 (by decide) (pn 16 rfl ?_)
  refine e_newJA hL (21) rfl (175) dX3_init_16 rfl (by decide) la_J (pn 18 rfl ?_)
  refine e_putFA hL 0 rfl dX3_init_18 fp_X3_15 rfl rfl rfl (Nat.le_of_ble_eq_true rfl) (pn 21 rfl ?_)
  exact e_vret dX3_init_21 rfl rfl rfl
theorem i_pair {w0 : Wd} (hL : w0.length = 22) : CW mX2_init [.ref 22] (w0 ++ [oB 2 [.null, .null, .null]]) none (w0 ++ [oB 2 [.ref 23, .ref 24, .ref 25], aI 625 (fun _ => 0), aJ 625 (fun _ => 0), rowW []]) := by
  refine cw_of (M := mX2_init) fx_X2_init (lv := [.ref 22]) rfl (Nat.le_of_ble_eq_true rfl) ?_
  refine e_aload_n dX2_init_0 rfl (pn 1 rfl ?_)
  refine e_oinit dX2_init_1 lo_X2 lo_i lo_c (by decide) (Nat.le_of_ble_eq_true rfl) (pn 4 rfl ?_)
  refine e_aload_n dX2_init_4 rfl (pn 5 rfl ?_)
  refine e_si (625) dX2_init_5 (by decide) (pn 8 rfl ?_)
  refine e_newIA hL (23) rfl (625) dX2_init_8 rfl (by decide) la_I (pn 10 rfl ?_)
  refine e_putFA hL 0 rfl dX2_init_10 fp_X2_11 rfl rfl rfl (Nat.le_of_ble_eq_true rfl) (pn 13 rfl ?_)
  refine e_aload_n dX2_init_13 rfl (pn 14 rfl ?_)
  refine e_si (625) dX2_init_14 (by decide) (pn 17 rfl ?_)
  refine e_newJA hL (24) rfl (625) dX2_init_17 rfl (by decide) la_J (pn 19 rfl ?_)
  refine e_putFA hL 0 rfl dX2_init_19 fp_X2_15 rfl rfl rfl (Nat.le_of_ble_eq_true rfl) (pn 22 rfl ?_)
  refine e_aload_n dX2_init_22 rfl (pn 23 rfl ?_)
  refine e_newA hL (25) rfl dX2_init_23 ln_X2_19 (pn 26 rfl ?_)
  refine e_dup dX2_init_26 rfl (pn 27 rfl ?_)
  refine c_I dX2_init_27 ml_X2_21 mi_X4_init (by decide) (by decide) (r_init _ 25) rfl rfl (Nat.le_of_ble_eq_true rfl) (pn 30 rfl ?_)
  refine e_putFA hL 0 rfl dX2_init_30 fp_X2_22 rfl rfl rfl (Nat.le_of_ble_eq_true rfl) (pn 33 rfl ?_)
  exact e_vret dX2_init_33 rfl rfl rfl
theorem i_line {w0 : Wd} (hL : w0.length = 39) : CW mX1_init [.ref 39] (w0 ++ [oB 1 [.null, .int 0, .int 0, .int 0, .long 0]]) none (w0 ++ [lnF 0 0 0 1, rowW []]) := by
  refine cw_of (M := mX1_init) fx_X1_init (lv := [.ref 39]) rfl (Nat.le_of_ble_eq_true rfl) ?_
  refine e_aload_n dX1_init_0 rfl (pn 1 rfl ?_)
  refine e_oinit dX1_init_1 lo_X1 lo_i lo_c (by decide) (Nat.le_of_ble_eq_true rfl) (pn 4 rfl ?_)
  refine e_aload_n dX1_init_4 rfl (pn 5 rfl ?_)
  refine e_newA hL (40) rfl dX1_init_5 ln_X1_7 (pn 8 rfl ?_)
  refine e_dup dX1_init_8 rfl (pn 9 rfl ?_)
  refine c_I dX1_init_9 ml_X1_9 mi_X4_init (by decide) (by decide) (r_init _ 40) rfl rfl (Nat.le_of_ble_eq_true rfl) (pn 12 rfl ?_)
  refine e_putFA hL 0 rfl dX1_init_12 fp_X1_10 rfl rfl rfl (Nat.le_of_ble_eq_true rfl) (pn 15 rfl ?_)
  refine e_aload_n dX1_init_15 rfl (pn 16 rfl ?_)
  refine e_lc (1) dX1_init_16 (by decide) (pn 17 rfl ?_)
  refine e_putA hL 0 rfl dX1_init_17 fp_X1_16 rfl rfl (Nat.le_of_ble_eq_true rfl) (pn 20 rfl ?_)
  exact e_vret dX1_init_20 rfl rfl rfl
abbrev mD0 : Md := (2, 0, 0, 0, 0, 0, 0, 0, 0, 1, 0)
theorem i_model {w0 : Wd} (hL : w0.length = 41) : CW mX7_init [.ref 41] (w0 ++ [oB 7 [.int 0, .null, .null, .int 0, .int 0, .int 0, .int 0, .int 0, .int 0, .int 0, .int 0, .long 0, .null, .null, .int 0, .null, .null]]) none (w0 ++ [mdF mD0, aI 24 (fun _ => 0), aI 720 (fun _ => 0), aI 17408 (fun _ => 0), aI 4800 (fun _ => 0), aJ 900 (fun _ => 0), aI 900 (fun _ => 0)]) := by
  refine cw_of (M := mX7_init) fx_X7_init (lv := [.ref 41]) rfl (Nat.le_of_ble_eq_true rfl) ?_
  refine e_aload_n dX7_init_0 rfl (pn 1 rfl ?_)
  refine e_oinit dX7_init_1 lo_X7 lo_i lo_c (by decide) (Nat.le_of_ble_eq_true rfl) (pn 4 rfl ?_)
  refine e_aload_n dX7_init_4 rfl (pn 5 rfl ?_)
  refine e_ic (2) dX7_init_5 (by decide) (pn 6 rfl ?_)
  refine e_putA hL 0 rfl dX7_init_6 fp_X7_7 rfl rfl (Nat.le_of_ble_eq_true rfl) (pn 9 rfl ?_)
  refine e_aload_n dX7_init_9 rfl (pn 10 rfl ?_)
  refine e_bi (24) dX7_init_10 (by decide) (pn 12 rfl ?_)
  refine e_newIA hL (42) rfl (24) dX7_init_12 rfl (by decide) la_I (pn 14 rfl ?_)
  refine e_putFA hL 0 rfl dX7_init_14 fp_X7_13 rfl rfl rfl (Nat.le_of_ble_eq_true rfl) (pn 17 rfl ?_)
  refine e_aload_n dX7_init_17 rfl (pn 18 rfl ?_)
  refine e_si (720) dX7_init_18 (by decide) (pn 21 rfl ?_)
  refine e_newIA hL (43) rfl (720) dX7_init_21 rfl (by decide) la_I (pn 23 rfl ?_)
  refine e_putFA hL 0 rfl dX7_init_23 fp_X7_17 rfl rfl rfl (Nat.le_of_ble_eq_true rfl) (pn 26 rfl ?_)
  refine e_aload_n dX7_init_26 rfl (pn 27 rfl ?_)
  refine e_lc (1) dX7_init_27 (by decide) (pn 28 rfl ?_)
  refine e_putA hL 0 rfl dX7_init_28 fp_X7_20 rfl rfl (Nat.le_of_ble_eq_true rfl) (pn 31 rfl ?_)
  refine e_aload_n dX7_init_31 rfl (pn 32 rfl ?_)
  refine e_si (17408) dX7_init_32 (by decide) (pn 35 rfl ?_)
  refine e_newIA hL (44) rfl (17408) dX7_init_35 rfl (by decide) la_I (pn 37 rfl ?_)
  refine e_putFA hL 0 rfl dX7_init_37 fp_X7_24 rfl rfl rfl (Nat.le_of_ble_eq_true rfl) (pn 40 rfl ?_)
  refine e_aload_n dX7_init_40 rfl (pn 41 rfl ?_)
  refine e_si (4800) dX7_init_41 (by decide) (pn 44 rfl ?_)
  refine e_newIA hL (45) rfl (4800) dX7_init_44 rfl (by decide) la_I (pn 46 rfl ?_)
  refine e_putFA hL 0 rfl dX7_init_46 fp_X7_27 rfl rfl rfl (Nat.le_of_ble_eq_true rfl) (pn 49 rfl ?_)
  refine e_aload_n dX7_init_49 rfl (pn 50 rfl ?_)
  refine e_si (900) dX7_init_50 (by decide) (pn 53 rfl ?_)
  refine e_newJA hL (46) rfl (900) dX7_init_53 rfl (by decide) la_J (pn 55 rfl ?_)
  refine e_putFA hL 0 rfl dX7_init_55 fp_X7_30 rfl rfl rfl (Nat.le_of_ble_eq_true rfl) (pn 58 rfl ?_)
  refine e_aload_n dX7_init_58 rfl (pn 59 rfl ?_)
  refine e_si (900) dX7_init_59 (by decide) (pn 62 rfl ?_)
  refine e_newIA hL (47) rfl (900) dX7_init_62 rfl (by decide) la_I (pn 64 rfl ?_)
  refine e_putFA hL 0 rfl dX7_init_64 fp_X7_34 rfl rfl rfl (Nat.le_of_ble_eq_true rfl) (pn 67 rfl ?_)
  exact e_vret dX7_init_67 rfl rfl rfl
/-! rows in a loop -/
def rfK (b k : Nat) : Nat → Option Nat := fun j => if j < k then some (b + j) else none
theorem rfK_0 (b : Nat) : rfK b 0 = fun _ => none := by funext j; exact if_neg (Nat.not_lt_zero j)
theorem rfK_up (b k : Nat) : va_up (rfK b k) k (some (b + k)) = rfK b (k + 1) := by
  funext j
  by_cases h : j = k
  · subst h
    rw [up_eq]
    exact (if_pos (Nat.lt_succ_self j)).symm
  · rw [up_ne _ _ h]
    unfold rfK
    by_cases h2 : j < k
    · rw [if_pos h2, if_pos (by omega)]
    · rw [if_neg h2, if_neg (by omega)]
abbrev tcO0 : Cel := oB 5 [.ref 27, .null, .null, .null, .int 0, .int 0, .int 0, .int 0, .long 0]
theorem rp_set (a c c' x : Cel) (k : Nat) : (([a, c] ++ List.replicate k x) ++ [x]).set 1 c' = [a, c'] ++ List.replicate (k + 1) x := by
  rw [List.replicate_succ']
  rfl
theorem rp_get (a c x : Cel) (k : Nat) : (([a, c] ++ List.replicate k x) ++ [x])[k + 2]? = some x := by
  rw [List.getElem?_append_right (by simp), show k + 2 - ([a, c] ++ List.replicate k x).length = 0 by simp]
  rfl
theorem i_traces {w0 : Wd} (hL : w0.length = 26) : CW mX5_init [.ref 26] (w0 ++ [oB 5 [.null, .null, .null, .null, .int 0, .int 0, .int 0, .int 0, .long 0]]) none (w0 ++ ([tcF 0 0 0 0 0, aR 8 rf8] ++ List.replicate 8 (rowW []) ++ [aI 1352 (fun _ => 0), rowW [], rowW []])) := by
  have loop : ∀ {r : Option Value} {w' : Wd}, EW mX5_init none 40 [.ref 26, dmy] [] (w0 ++ ([tcO0, aR 8 rf8] ++ List.replicate 8 (rowW []))) r w' → ∀ c k : Nat, k + c = 8 → EW mX5_init none 15 [.ref 26, .int (nI k)] [] (w0 ++ ([tcO0, aR 8 (rfK 28 k)] ++ List.replicate k (rowW []))) r w' := by
    intro r w' K c
    induction c with
    | zero =>
      intro k hk
      have e : k = 8 := by omega
      subst e
      refine e_iload_n dX5_init_15 rfl (pn 16 rfl ?_)
      refine e_bi (8) dX5_init_16 (by decide) (pn 18 rfl ?_)
      refine e_icmp_ge 40 dX5_init_18 (by decide) (fun _ => ?_) (fun c_9 => absurd (by decide) c_9)
      exact e_dr [_, _] 1 rfl K
    | succ c ih =>
      intro k hk
      refine e_iload_n dX5_init_15 rfl (pn 16 rfl ?_)
      refine e_bi (8) dX5_init_16 (by decide) (pn 18 rfl ?_)
      refine e_icmp_ge 40 dX5_init_18 (by decide) (fun c_9 => absurd c_9 (nI_ge (b := 8) (by omega) (by omega))) (fun _ => pn 21 rfl ?_)
      refine e_aload_n dX5_init_21 rfl (pn 22 rfl ?_)
      refine e_get dX5_init_22 fl_X5_11 (gA hL 0 rfl rfl) rfl (pn 25 rfl ?_)
      refine e_iload_n dX5_init_25 rfl (pn 26 rfl ?_)
      refine e_newA hL (28 + k) (by simp; omega) dX5_init_26 ln_X5_9 (pn 29 rfl ?_)
      refine e_dup dX5_init_29 rfl (pn 30 rfl ?_)
      refine c_I dX5_init_30 ml_X5_17 mi_X4_init (by decide) (by omega) (r_init _ (28 + k)) rfl rfl (Nat.le_of_ble_eq_true rfl) (pn 33 rfl ?_)
      refine e_aast (k) dX5_init_33 (gA hL 1 rfl rfl) rfl (by omega) (by decide) (gA hL (k + 2) (by omega) (rp_get _ _ _ k)) (pn 34 rfl ?_)
      refine pw (w1 := w0 ++ ([tcO0, aR 8 (rfK 28 (k + 1))] ++ List.replicate (k + 1) (rowW []))) (by rw [sA hL 1 rfl, rfK_up]; exact congrArg _ (rp_set _ _ _ _ k)) ?_
      refine s_inc [_, _] (1) dX5_init_34 (by decide) rfl (Nat.le_of_ble_eq_true rfl) rfl (pn 37 rfl ?_)
      refine e_goto 15 dX5_init_37 (by decide) ?_
      rw [nI_1]
      exact ih (k + 1) (by omega)
  refine cw_of (M := mX5_init) fx_X5_init (lv := [.ref 26, dmy]) rfl (Nat.le_of_ble_eq_true rfl) ?_
  refine e_aload_n dX5_init_0 rfl (pn 1 rfl ?_)
  refine e_oinit dX5_init_1 lo_X5 lo_i lo_c (by decide) (Nat.le_of_ble_eq_true rfl) (pn 4 rfl ?_)
  refine e_aload_n dX5_init_4 rfl (pn 5 rfl ?_)
  refine e_bi (8) dX5_init_5 (by decide) (pn 7 rfl ?_)
  refine e_newRA hL (27) rfl (8) dX5_init_7 rfl (by decide) lr_X5_9 (pn 10 rfl ?_)
  refine e_putFA hL 0 rfl dX5_init_10 fp_X5_11 rfl rfl rfl (Nat.le_of_ble_eq_true rfl) (pn 13 rfl ?_)
  refine e_ic (0) dX5_init_13 (by decide) (pn 14 rfl ?_)
  refine s_in [_, _] dX5_init_14 (Nat.le_of_ble_eq_true rfl) rfl (pn 15 rfl ?_)
  refine pw (w1 := w0 ++ ([tcO0, aR 8 (rfK 28 0)] ++ List.replicate 0 (rowW []))) (by rw [rfK_0]; rfl) ?_
  refine loop ?_ 8 0 (by omega)
  refine e_aload_n dX5_init_40 rfl (pn 41 rfl ?_)
  refine e_si (1352) dX5_init_41 (by decide) (pn 44 rfl ?_)
  refine e_newIA hL (36) rfl (1352) dX5_init_44 rfl (by decide) la_I (pn 46 rfl ?_)
  refine e_putFA hL 0 rfl dX5_init_46 fp_X5_18 rfl rfl rfl (Nat.le_of_ble_eq_true rfl) (pn 49 rfl ?_)
  refine e_aload_n dX5_init_49 rfl (pn 50 rfl ?_)
  refine e_newA hL (37) rfl dX5_init_50 ln_X5_9 (pn 53 rfl ?_)
  refine e_dup dX5_init_53 rfl (pn 54 rfl ?_)
  refine c_I dX5_init_54 ml_X5_17 mi_X4_init (by decide) (by decide) (r_init _ 37) rfl rfl (Nat.le_of_ble_eq_true rfl) (pn 57 rfl ?_)
  refine e_putFA hL 0 rfl dX5_init_57 fp_X5_22 rfl rfl rfl (Nat.le_of_ble_eq_true rfl) (pn 60 rfl ?_)
  refine e_aload_n dX5_init_60 rfl (pn 61 rfl ?_)
  refine e_newA hL (38) rfl dX5_init_61 ln_X5_9 (pn 64 rfl ?_)
  refine e_dup dX5_init_64 rfl (pn 65 rfl ?_)
  refine c_I dX5_init_65 ml_X5_17 mi_X4_init (by decide) (by decide) (r_init _ 38) rfl rfl (Nat.le_of_ble_eq_true rfl) (pn 68 rfl ?_)
  refine e_putFA hL 0 rfl dX5_init_68 fp_X5_26 rfl rfl rfl (Nat.le_of_ble_eq_true rfl) (pn 71 rfl ?_)
  exact e_vret dX5_init_71 rfl rfl rfl
abbrev lxO0 : Cel := oB 6 [.ref 2, .null, .null, .null, .null, .null, .int 2]
def wX0 : Wd := [scrC, lxF 2, aR 12 rf12] ++ List.replicate 12 (rowW []) ++ [cdF 18 2 0 1 0 0 1 0, rowW [], rowW [], aI 0 (fun _ => 0), oB 3 [.ref 20, .ref 21], aJ 25 (fun _ => 0), aJ 175 (fun _ => 0), oB 2 [.ref 23, .ref 24, .ref 25], aI 625 (fun _ => 0), aJ 625 (fun _ => 0), rowW [], tcF 0 0 0 0 0, aR 8 rf8] ++ List.replicate 8 (rowW []) ++ [aI 1352 (fun _ => 0), rowW [], rowW [], lnF 0 0 0 1, rowW []]
theorem i_lost : CW mX6_init [.ref 1] ([scrC] ++ [oB 6 [.null, .null, .null, .null, .null, .null, .int 0]]) none wX0 := by
  have hL : ([scrC] : Wd).length = 1 := rfl
  have loop : ∀ {r : Option Value} {w' : Wd}, EW mX6_init none 45 [.ref 1, dmy] [] ([scrC] ++ ([lxO0, aR 12 rf12] ++ List.replicate 12 (rowW []))) r w' → ∀ c k : Nat, k + c = 12 → EW mX6_init none 20 [.ref 1, .int (nI k)] [] ([scrC] ++ ([lxO0, aR 12 (rfK 3 k)] ++ List.replicate k (rowW []))) r w' := by
    intro r w' K c
    induction c with
    | zero =>
      intro k hk
      have e : k = 12 := by omega
      subst e
      refine e_iload_n dX6_init_20 rfl (pn 21 rfl ?_)
      refine e_bi (12) dX6_init_21 (by decide) (pn 23 rfl ?_)
      refine e_icmp_ge 45 dX6_init_23 (by decide) (fun _ => ?_) (fun c_9 => absurd (by decide) c_9)
      exact e_dr [_, _] 1 rfl K
    | succ c ih =>
      intro k hk
      refine e_iload_n dX6_init_20 rfl (pn 21 rfl ?_)
      refine e_bi (12) dX6_init_21 (by decide) (pn 23 rfl ?_)
      refine e_icmp_ge 45 dX6_init_23 (by decide) (fun c_9 => absurd c_9 (nI_ge (b := 12) (by omega) (by omega))) (fun _ => pn 26 rfl ?_)
      refine e_aload_n dX6_init_26 rfl (pn 27 rfl ?_)
      refine e_get dX6_init_27 fl_X6_15 (gA hL 0 rfl rfl) rfl (pn 30 rfl ?_)
      refine e_iload_n dX6_init_30 rfl (pn 31 rfl ?_)
      refine e_newA hL (3 + k) (by simp; omega) dX6_init_31 ln_X6_13 (pn 34 rfl ?_)
      refine e_dup dX6_init_34 rfl (pn 35 rfl ?_)
      refine c_I dX6_init_35 ml_X6_19 mi_X4_init (by decide) (by omega) (r_init _ (3 + k)) rfl rfl (Nat.le_of_ble_eq_true rfl) (pn 38 rfl ?_)
      refine e_aast (k) dX6_init_38 (gA hL 1 rfl rfl) rfl (by omega) (by decide) (gA hL (k + 2) (by omega) (rp_get _ _ _ k)) (pn 39 rfl ?_)
      refine pw (w1 := [scrC] ++ ([lxO0, aR 12 (rfK 3 (k + 1))] ++ List.replicate (k + 1) (rowW []))) (by rw [sA hL 1 rfl, rfK_up]; exact congrArg _ (rp_set _ _ _ _ k)) ?_
      refine s_inc [_, _] (1) dX6_init_39 (by decide) rfl (Nat.le_of_ble_eq_true rfl) rfl (pn 42 rfl ?_)
      refine e_goto 20 dX6_init_42 (by decide) ?_
      rw [nI_1]
      exact ih (k + 1) (by omega)
  refine cw_of (M := mX6_init) fx_X6_init (lv := [.ref 1, dmy]) rfl (Nat.le_of_ble_eq_true rfl) ?_
  refine e_aload_n dX6_init_0 rfl (pn 1 rfl ?_)
  refine e_oinit dX6_init_1 lo_X6 lo_i lo_c (by decide) (Nat.le_of_ble_eq_true rfl) (pn 4 rfl ?_)
  refine e_aload_n dX6_init_4 rfl (pn 5 rfl ?_)
  refine e_ic (2) dX6_init_5 (by decide) (pn 6 rfl ?_)
  refine e_putA hL 0 rfl dX6_init_6 fp_X6_9 rfl rfl (Nat.le_of_ble_eq_true rfl) (pn 9 rfl ?_)
  refine e_aload_n dX6_init_9 rfl (pn 10 rfl ?_)
  refine e_bi (12) dX6_init_10 (by decide) (pn 12 rfl ?_)
  refine e_newRA hL (2) rfl (12) dX6_init_12 rfl (by decide) lr_X6_13 (pn 15 rfl ?_)
  refine e_putFA hL 0 rfl dX6_init_15 fp_X6_15 rfl rfl rfl (Nat.le_of_ble_eq_true rfl) (pn 18 rfl ?_)
  refine e_ic (0) dX6_init_18 (by decide) (pn 19 rfl ?_)
  refine s_in [_, _] dX6_init_19 (Nat.le_of_ble_eq_true rfl) rfl (pn 20 rfl ?_)
  refine pw (w1 := [scrC] ++ ([lxO0, aR 12 (rfK 3 0)] ++ List.replicate 0 (rowW []))) (by rw [rfK_0]; rfl) ?_
  refine loop ?_ 12 0 (by omega)
  refine e_aload_n dX6_init_45 rfl (pn 46 rfl ?_)
  refine e_newA hL (15) rfl dX6_init_46 ln_X6_20 (pn 49 rfl ?_)
  refine e_dup dX6_init_49 rfl (pn 50 rfl ?_)
  refine c_I dX6_init_50 ml_X6_22 mi_X0_init (by decide) (by decide) (cwA (i_code rfl)) rfl rfl (Nat.le_of_ble_eq_true rfl) (pn 53 rfl ?_)
  refine e_putFA hL 0 rfl dX6_init_53 fp_X6_23 rfl rfl rfl (Nat.le_of_ble_eq_true rfl) (pn 56 rfl ?_)
  refine e_aload_n dX6_init_56 rfl (pn 57 rfl ?_)
  refine e_newA hL (19) rfl dX6_init_57 ln_X6_27 (pn 60 rfl ?_)
  refine e_dup dX6_init_60 rfl (pn 61 rfl ?_)
  refine c_I dX6_init_61 ml_X6_29 mi_X3_init (by decide) (by decide) (cwA (i_parts rfl)) rfl rfl (Nat.le_of_ble_eq_true rfl) (pn 64 rfl ?_)
  refine e_putFA hL 0 rfl dX6_init_64 fp_X6_30 rfl rfl rfl (Nat.le_of_ble_eq_true rfl) (pn 67 rfl ?_)
  refine e_aload_n dX6_init_67 rfl (pn 68 rfl ?_)
  refine e_newA hL (22) rfl dX6_init_68 ln_X6_34 (pn 71 rfl ?_)
  refine e_dup dX6_init_71 rfl (pn 72 rfl ?_)
  refine c_I dX6_init_72 ml_X6_36 mi_X2_init (by decide) (by decide) (cwA (i_pair rfl)) rfl rfl (Nat.le_of_ble_eq_true rfl) (pn 75 rfl ?_)
  refine e_putFA hL 0 rfl dX6_init_75 fp_X6_37 rfl rfl rfl (Nat.le_of_ble_eq_true rfl) (pn 78 rfl ?_)
  refine e_aload_n dX6_init_78 rfl (pn 79 rfl ?_)
  refine e_newA hL (26) rfl dX6_init_79 ln_X6_41 (pn 82 rfl ?_)
  refine e_dup dX6_init_82 rfl (pn 83 rfl ?_)
  refine c_I dX6_init_83 ml_X6_43 mi_X5_init (by decide) (by decide) (cwA (i_traces rfl)) rfl rfl (Nat.le_of_ble_eq_true rfl) (pn 86 rfl ?_)
  refine e_putFA hL 0 rfl dX6_init_86 fp_X6_44 rfl rfl rfl (Nat.le_of_ble_eq_true rfl) (pn 89 rfl ?_)
  refine e_aload_n dX6_init_89 rfl (pn 90 rfl ?_)
  refine e_newA hL (39) rfl dX6_init_90 ln_X6_48 (pn 93 rfl ?_)
  refine e_dup dX6_init_93 rfl (pn 94 rfl ?_)
  refine c_I dX6_init_94 ml_X6_50 mi_X1_init (by decide) (by decide) (cwA (i_line rfl)) rfl rfl (Nat.le_of_ble_eq_true rfl) (pn 97 rfl ?_)
  refine e_putFA hL 0 rfl dX6_init_97 fp_X6_51 rfl rfl rfl (Nat.le_of_ble_eq_true rfl) (pn 100 rfl ?_)
  exact e_vret dX6_init_100 rfl rfl rfl
