/-! LostLetters$Row -/
abbrev rwC (b : Int64) (n : Int32) : Cel := oB 4 [.long b, .int n]
theorem r_init (w : Wd) (i : Nat) : CW mX4_init [.ref i] w none w := by
  refine cw_of (M := mX4_init) fx_X4_init (lv := [.ref i]) rfl (Nat.le_of_ble_eq_true rfl) ?_
  refine e_aload_n dX4_init_0 rfl (pn 1 rfl ?_)
  refine e_oinit dX4_init_1 lo_X4 lo_i lo_c (by decide) (Nat.le_of_ble_eq_true rfl) (pn 4 rfl ?_)
  exact e_vret dX4_init_4 rfl rfl rfl
theorem r_put {w : Wd} {i : Nat} {b0 : Int64} {n0 : Int32} (n : Int32) (b : Int64) (h : w[i]? = some (rwC b0 n0)) : CW mX4_put [.ref i, .int n, .long b] w none (w.set i (rwC b n)) := by
  refine cw_of (M := mX4_put) fx_X4_put (lv := [.ref i, .int n, .long b, dmy]) rfl (Nat.le_of_ble_eq_true rfl) ?_
  refine e_aload_n dX4_put_0 rfl (pn 1 rfl ?_)
  refine e_iload_n dX4_put_1 rfl (pn 2 rfl ?_)
  refine e_put dX4_put_2 fp_X4_15 h rfl (Nat.le_of_ble_eq_true rfl) (pn 5 rfl ?_)
  refine e_aload_n dX4_put_5 rfl (pn 6 rfl ?_)
  refine e_lload_n dX4_put_6 rfl (pn 7 rfl ?_)
  refine e_put dX4_put_7 fp_X4_19 (gse h) rfl (Nat.le_of_ble_eq_true rfl) (pn 10 rfl ?_)
  exact e_vret dX4_put_10 rfl rfl (by simp)
theorem r_clear {w : Wd} {i : Nat} {b0 : Int64} {n0 : Int32} (h : w[i]? = some (rwC b0 n0)) : CW mX4_clear [.ref i] w none (w.set i (rwC 0 0)) := by
  refine cw_of (M := mX4_clear) fx_X4_clear (lv := [.ref i]) rfl (Nat.le_of_ble_eq_true rfl) ?_
  refine e_aload_n dX4_clear_0 rfl (pn 1 rfl ?_)
  refine e_ic (0) dX4_clear_1 (by decide) (pn 2 rfl ?_)
  refine e_lc (0) dX4_clear_2 (by decide) (pn 3 rfl ?_)
  refine c_V0 dX4_clear_3 ml_X4_9 mv_X4_put (by decide) (r_put 0 0 h) h rfl rfl (Nat.le_of_ble_eq_true rfl) (pn 6 rfl ?_)
  exact e_vret dX4_clear_6 rfl rfl rfl
theorem r_become {w : Wd} {i j : Nat} {b0 b : Int64} {n0 n : Int32} (h : w[i]? = some (rwC b0 n0)) (h2 : w[j]? = some (rwC b n)) : CW mX4_become [.ref i, .ref j] w none (w.set i (rwC b n)) := by
  refine cw_of (M := mX4_become) fx_X4_become (lv := [.ref i, .ref j]) rfl (Nat.le_of_ble_eq_true rfl) ?_
  refine e_aload_n dX4_become_0 rfl (pn 1 rfl ?_)
  refine e_aload_n dX4_become_1 rfl (pn 2 rfl ?_)
  refine e_get dX4_become_2 fl_X4_15 h2 rfl (pn 5 rfl ?_)
  refine e_aload_n dX4_become_5 rfl (pn 6 rfl ?_)
  refine e_get dX4_become_6 fl_X4_19 h2 rfl (pn 9 rfl ?_)
  refine c_V0 dX4_become_9 ml_X4_9 mv_X4_put (by decide) (r_put n b h) h rfl rfl (Nat.le_of_ble_eq_true rfl) (pn 12 rfl ?_)
  exact e_vret dX4_become_12 rfl rfl rfl
theorem r_isFull {w : Wd} {i : Nat} {b : Int64} {n : Int32} (h : w[i]? = some (rwC b n)) : CW mX4_isFull [.ref i] w (some (.int (if n < 24 then 0 else 1))) w := by
  refine cw_of (M := mX4_isFull) fx_X4_isFull (lv := [.ref i]) rfl (Nat.le_of_ble_eq_true rfl) ?_
  refine e_aload_n dX4_isFull_0 rfl (pn 1 rfl ?_)
  refine e_get dX4_isFull_1 fl_X4_15 h rfl (pn 4 rfl ?_)
  refine e_bi (24) dX4_isFull_4 (by decide) (pn 6 rfl ?_)
  refine e_icmp_lt 13 dX4_isFull_6 (by decide) (fun c6 => ?_) (fun c6 => pn 9 rfl ?_)
  · refine e_ic (0) dX4_isFull_13 (by decide) (pn 14 rfl ?_)
    exact e_zret dX4_isFull_14 rfl (by decide) (by rw [if_pos c6]) rfl
  · refine e_ic (1) dX4_isFull_9 (by decide) (pn 10 rfl ?_)
    refine e_goto 14 dX4_isFull_10 (by decide) ?_
    exact e_zret dX4_isFull_14 rfl (by decide) (by rw [if_neg c6]) rfl
theorem r_letter {w : Wd} {i : Nat} {b : Int64} {n : Int32} (x : Int32) (h : w[i]? = some (rwC b n)) : CW mX4_letter [.ref i, .int x] w (some (.int (bLet b x))) w := by
  refine cw_of (M := mX4_letter) fx_X4_letter (lv := [.ref i, .int x]) rfl (Nat.le_of_ble_eq_true rfl) ?_
  refine e_aload_n dX4_letter_0 rfl (pn 1 rfl ?_)
  refine e_get dX4_letter_1 fl_X4_19 h rfl (pn 4 rfl ?_)
  refine e_ic (2) dX4_letter_4 (by decide) (pn 5 rfl ?_)
  refine e_iload_n dX4_letter_5 rfl (pn 6 rfl ?_)
  refine e_imul dX4_letter_6 (pn 7 rfl ?_)
  refine e_lushr dX4_letter_7 (pn 8 rfl ?_)
  refine e_l2i dX4_letter_8 (pn 9 rfl ?_)
  refine e_ic (3) dX4_letter_9 (by decide) (pn 10 rfl ?_)
  refine e_iand dX4_letter_10 (pn 11 rfl ?_)
  exact e_iret dX4_letter_11 rfl rfl rfl
theorem r_ahead {w : Wd} {i : Nat} {b : Int64} {n : Int32} (x : Int32) (h : w[i]? = some (rwC b n)) : CW mX4_ahead [.ref i, .int x] w (some (.long (bAhd b x))) w := by
  refine cw_of (M := mX4_ahead) fx_X4_ahead (lv := [.ref i, .int x]) rfl (Nat.le_of_ble_eq_true rfl) ?_
  refine e_aload_n dX4_ahead_0 rfl (pn 1 rfl ?_)
  refine e_get dX4_ahead_1 fl_X4_19 h rfl (pn 4 rfl ?_)
  refine e_lc (1) dX4_ahead_4 (by decide) (pn 5 rfl ?_)
  refine e_ic (2) dX4_ahead_5 (by decide) (pn 6 rfl ?_)
  refine e_iload_n dX4_ahead_6 rfl (pn 7 rfl ?_)
  refine e_imul dX4_ahead_7 (pn 8 rfl ?_)
  refine e_lshl dX4_ahead_8 (pn 9 rfl ?_)
  refine e_lc (1) dX4_ahead_9 (by decide) (pn 10 rfl ?_)
  refine e_lsub dX4_ahead_10 (pn 11 rfl ?_)
  refine e_land dX4_ahead_11 (pn 12 rfl ?_)
  exact e_lret dX4_ahead_12 rfl rfl rfl
theorem r_turn {w : Wd} {i : Nat} {b : Int64} {n : Int32} (x l : Int32) (h : w[i]? = some (rwC b n)) : CW mX4_turn [.ref i, .int x, .int l] w none (w.set i (rwC (bTrn b x l) n)) := by
  refine cw_of (M := mX4_turn) fx_X4_turn (lv := [.ref i, .int x, .int l]) rfl (Nat.le_of_ble_eq_true rfl) ?_
  refine e_aload_n dX4_turn_0 rfl (pn 1 rfl ?_)
  refine e_aload_n dX4_turn_1 rfl (pn 2 rfl ?_)
  refine e_get dX4_turn_2 fl_X4_19 h rfl (pn 5 rfl ?_)
  refine e_ldc2 dX4_turn_5 lk_X4_23 (pn 8 rfl ?_)
  refine e_ic (2) dX4_turn_8 (by decide) (pn 9 rfl ?_)
  refine e_iload_n dX4_turn_9 rfl (pn 10 rfl ?_)
  refine e_imul dX4_turn_10 (pn 11 rfl ?_)
  refine e_lshl dX4_turn_11 (pn 12 rfl ?_)
  refine e_ldc2 dX4_turn_12 lk_X4_25 (pn 15 rfl ?_)
  refine e_lxor dX4_turn_15 (pn 16 rfl ?_)
  refine e_land dX4_turn_16 (pn 17 rfl ?_)
  refine e_iload_n dX4_turn_17 rfl (pn 18 rfl ?_)
  refine e_i2l dX4_turn_18 (pn 19 rfl ?_)
  refine e_ic (2) dX4_turn_19 (by decide) (pn 20 rfl ?_)
  refine e_iload_n dX4_turn_20 rfl (pn 21 rfl ?_)
  refine e_imul dX4_turn_21 (pn 22 rfl ?_)
  refine e_lshl dX4_turn_22 (pn 23 rfl ?_)
  refine e_lor dX4_turn_23 (pn 24 rfl ?_)
  refine e_put dX4_turn_24 fp_X4_19 h rfl (Nat.le_of_ble_eq_true rfl) (pn 27 rfl ?_)
  exact e_vret dX4_turn_27 rfl rfl rfl
theorem r_lose {w : Wd} {i : Nat} {b : Int64} {n : Int32} (x : Int32) (h : w[i]? = some (rwC b n)) : CW mX4_lose [.ref i, .int x] w none (w.set i (rwC (bLos b x) (n - 1))) := by
  refine cw_of (M := mX4_lose) fx_X4_lose (lv := [.ref i, .int x]) rfl (Nat.le_of_ble_eq_true rfl) ?_
  refine e_aload_n dX4_lose_0 rfl (pn 1 rfl ?_)
  refine e_aload_n dX4_lose_1 rfl (pn 2 rfl ?_)
  refine e_iload_n dX4_lose_2 rfl (pn 3 rfl ?_)
  refine c_V1 dX4_lose_3 ml_X4_27 mv_X4_ahead (by decide) (r_ahead x h) h rfl rfl (Nat.le_of_ble_eq_true rfl) (pn 6 rfl ?_)
  refine e_aload_n dX4_lose_6 rfl (pn 7 rfl ?_)
  refine e_get dX4_lose_7 fl_X4_19 h rfl (pn 10 rfl ?_)
  refine e_ic (2) dX4_lose_10 (by decide) (pn 11 rfl ?_)
  refine e_iload_n dX4_lose_11 rfl (pn 12 rfl ?_)
  refine e_imul dX4_lose_12 (pn 13 rfl ?_)
  refine e_ic (2) dX4_lose_13 (by decide) (pn 14 rfl ?_)
  refine e_iadd dX4_lose_14 (pn 15 rfl ?_)
  refine e_lushr dX4_lose_15 (pn 16 rfl ?_)
  refine e_ic (2) dX4_lose_16 (by decide) (pn 17 rfl ?_)
  refine e_iload_n dX4_lose_17 rfl (pn 18 rfl ?_)
  refine e_imul dX4_lose_18 (pn 19 rfl ?_)
  refine e_lshl dX4_lose_19 (pn 20 rfl ?_)
  refine e_lor dX4_lose_20 (pn 21 rfl ?_)
  refine e_put dX4_lose_21 fp_X4_19 h rfl (Nat.le_of_ble_eq_true rfl) (pn 24 rfl ?_)
  refine e_aload_n dX4_lose_24 rfl (pn 25 rfl ?_)
  refine e_dup dX4_lose_25 rfl (pn 26 rfl ?_)
  refine e_get dX4_lose_26 fl_X4_15 (gse h) rfl (pn 29 rfl ?_)
  refine e_ic (1) dX4_lose_29 (by decide) (pn 30 rfl ?_)
  refine e_isub dX4_lose_30 (pn 31 rfl ?_)
  refine e_put dX4_lose_31 fp_X4_15 (gse h) rfl (Nat.le_of_ble_eq_true rfl) (pn 34 rfl ?_)
  exact e_vret dX4_lose_34 rfl rfl (by simp [bLos, usr])
theorem r_gain {w : Wd} {i : Nat} {b : Int64} {n : Int32} (x l : Int32) (h : w[i]? = some (rwC b n)) : CW mX4_gain [.ref i, .int x, .int l] w none (w.set i (rwC (bGan b x l) (n + 1))) := by
  refine cw_of (M := mX4_gain) fx_X4_gain (lv := [.ref i, .int x, .int l]) rfl (Nat.le_of_ble_eq_true rfl) ?_
  refine e_aload_n dX4_gain_0 rfl (pn 1 rfl ?_)
  refine e_aload_n dX4_gain_1 rfl (pn 2 rfl ?_)
  refine e_iload_n dX4_gain_2 rfl (pn 3 rfl ?_)
  refine c_V1 dX4_gain_3 ml_X4_27 mv_X4_ahead (by decide) (r_ahead x h) h rfl rfl (Nat.le_of_ble_eq_true rfl) (pn 6 rfl ?_)
  refine e_iload_n dX4_gain_6 rfl (pn 7 rfl ?_)
  refine e_i2l dX4_gain_7 (pn 8 rfl ?_)
  refine e_ic (2) dX4_gain_8 (by decide) (pn 9 rfl ?_)
  refine e_iload_n dX4_gain_9 rfl (pn 10 rfl ?_)
  refine e_imul dX4_gain_10 (pn 11 rfl ?_)
  refine e_lshl dX4_gain_11 (pn 12 rfl ?_)
  refine e_lor dX4_gain_12 (pn 13 rfl ?_)
  refine e_aload_n dX4_gain_13 rfl (pn 14 rfl ?_)
  refine e_get dX4_gain_14 fl_X4_19 h rfl (pn 17 rfl ?_)
  refine e_ic (2) dX4_gain_17 (by decide) (pn 18 rfl ?_)
  refine e_iload_n dX4_gain_18 rfl (pn 19 rfl ?_)
  refine e_imul dX4_gain_19 (pn 20 rfl ?_)
  refine e_lushr dX4_gain_20 (pn 21 rfl ?_)
  refine e_ic (2) dX4_gain_21 (by decide) (pn 22 rfl ?_)
  refine e_iload_n dX4_gain_22 rfl (pn 23 rfl ?_)
  refine e_imul dX4_gain_23 (pn 24 rfl ?_)
  refine e_ic (2) dX4_gain_24 (by decide) (pn 25 rfl ?_)
  refine e_iadd dX4_gain_25 (pn 26 rfl ?_)
  refine e_lshl dX4_gain_26 (pn 27 rfl ?_)
  refine e_lor dX4_gain_27 (pn 28 rfl ?_)
  refine e_put dX4_gain_28 fp_X4_19 h rfl (Nat.le_of_ble_eq_true rfl) (pn 31 rfl ?_)
  refine e_aload_n dX4_gain_31 rfl (pn 32 rfl ?_)
  refine e_dup dX4_gain_32 rfl (pn 33 rfl ?_)
  refine e_get dX4_gain_33 fl_X4_15 (gse h) rfl (pn 36 rfl ?_)
  refine e_ic (1) dX4_gain_36 (by decide) (pn 37 rfl ?_)
  refine e_iadd dX4_gain_37 (pn 38 rfl ?_)
  refine e_put dX4_gain_38 fp_X4_15 (gse h) rfl (Nat.le_of_ble_eq_true rfl) (pn 41 rfl ?_)
  exact e_vret dX4_gain_41 rfl rfl (by simp [bGan, usr])
theorem r_append {w : Wd} {i : Nat} {b : Int64} {n : Int32} (l : Int32) (h : w[i]? = some (rwC b n)) : CW mX4_append [.ref i, .int l] w none (w.set i (rwC (bGan b n l) (n + 1))) := by
  refine cw_of (M := mX4_append) fx_X4_append (lv := [.ref i, .int l]) rfl (Nat.le_of_ble_eq_true rfl) ?_
  refine e_aload_n dX4_append_0 rfl (pn 1 rfl ?_)
  refine e_aload_n dX4_append_1 rfl (pn 2 rfl ?_)
  refine e_get dX4_append_2 fl_X4_15 h rfl (pn 5 rfl ?_)
  refine e_iload_n dX4_append_5 rfl (pn 6 rfl ?_)
  refine c_V0 dX4_append_6 ml_X4_31 mv_X4_gain (by decide) (r_gain n l h) h rfl rfl (Nat.le_of_ble_eq_true rfl) (pn 9 rfl ?_)
  exact e_vret dX4_append_9 rfl rfl rfl
/-! the same, of words -/
abbrev rowW (u : List Nat) : Cel := rwC (lN (enc u)) (nI u.length)
theorem w_letter {w : Wd} {i : Nat} {u : List Nat} (ok : okW u) (h : w[i]? = some (rowW u)) {k : Nat} (hk : k < 32) : CW mX4_letter [.ref i, .int (nI k)] w (some (.int (nI (u.getD k 0)))) w := by
  have := r_letter (nI k) h
  rw [bLet_w ok hk] at this
  exact this
theorem w_turn {w : Wd} {i : Nat} {u : List Nat} (ok : okW u) (h : w[i]? = some (rowW u)) {k l : Nat} (hk : k < u.length) (hl : l < 4) : CW mX4_turn [.ref i, .int (nI k), .int (nI l)] w none (w.set i (rowW (u.set k l))) := by
  have := r_turn (nI k) (nI l) h
  rw [bTrn_w ok hk hl] at this
  rw [rowW, List.length_set]
  exact this
theorem w_lose {w : Wd} {i : Nat} {u : List Nat} (ok : okW u) (h : w[i]? = some (rowW u)) {k : Nat} (hk : k < u.length) : CW mX4_lose [.ref i, .int (nI k)] w none (w.set i (rowW (u.eraseIdx k))) := by
  have := r_lose (nI k) h
  rw [bLos_w ok hk, show nI u.length - 1 = nI (u.length - 1) from pk_sub (b := 1) (by omega)] at this
  rw [rowW, List.length_eraseIdx_of_lt hk]
  exact this
theorem w_gain {w : Wd} {i : Nat} {u : List Nat} (ok : okW u) (h : w[i]? = some (rowW u)) {k l : Nat} (hk : k ≤ u.length) (hl : l < 4) : CW mX4_gain [.ref i, .int (nI k), .int (nI l)] w none (w.set i (rowW (u.insertIdx k l))) := by
  have := r_gain (nI k) (nI l) h
  rw [bGan_w ok hk hl, nI_1] at this
  rw [rowW, List.length_insertIdx_of_le_length hk]
  exact this
theorem ins_end (u : List Nat) (l : Nat) : u.insertIdx u.length l = u ++ [l] := by
  induction u with
  | nil => rfl
  | cons a u ih => simpa using ih
theorem w_append {w : Wd} {i : Nat} {u : List Nat} (ok : okW u) (h : w[i]? = some (rowW u)) {l : Nat} (hl : l < 4) : CW mX4_append [.ref i, .int (nI l)] w none (w.set i (rowW (u ++ [l]))) := by
  have := r_append (nI l) h
  rw [bGan_w ok (Nat.le_refl _) hl, nI_1, ins_end] at this
  rw [rowW, List.length_append]
  exact this
theorem w_clear {w : Wd} {i : Nat} {b0 : Int64} {n0 : Int32} (h : w[i]? = some (rwC b0 n0)) : CW mX4_clear [.ref i] w none (w.set i (rowW [])) := r_clear h
/-- the first place from p on that has the letter, or how many there are -/
def nxF (u : List Nat) (l : Nat) : Nat → Nat → Nat
  | 0, p => p
  | f + 1, p => if p < u.length ∧ u.getD p 0 ≠ l then nxF u l f (p + 1) else p
def nxW (u : List Nat) (l i : Nat) : Nat := nxF u l (u.length - i) i
theorem w_next_loop {w : Wd} {i : Nat} {u : List Nat} (ok : okW u) (h : w[i]? = some (rowW u)) (l i0 : Nat) (hl : l < 2 ^ 31) : ∀ (f p : Nat), u.length - p ≤ f → p < 2 ^ 30 → EW mX4_next none 2 [.ref i, .int (nI l), .int (nI i0), .int (nI p)] [] w (some (.int (nI (nxF u l f p)))) w := by
  have h24 := ok.1
  have h4 := okL_get ok.2
  intro f
  induction f with
  | zero =>
    intro p hp hp24
    refine e_iload_n dX4_next_2 rfl (pn 3 rfl ?_)
    refine e_aload_n dX4_next_3 rfl (pn 4 rfl ?_)
    refine e_get dX4_next_4 fl_X4_15 h rfl (pn 7 rfl ?_)
    refine e_icmp_ge 25 dX4_next_7 (by decide) (fun c7 => ?_) (fun c7 => pn 10 rfl ?_)
    · refine e_iload_n dX4_next_25 rfl (pn 26 rfl ?_)
      exact e_iret dX4_next_26 rfl rfl rfl
    · exact absurd (nI_le (by omega) (by omega)) c7
  | succ f ih =>
    intro p hp hp24
    refine e_iload_n dX4_next_2 rfl (pn 3 rfl ?_)
    refine e_aload_n dX4_next_3 rfl (pn 4 rfl ?_)
    refine e_get dX4_next_4 fl_X4_15 h rfl (pn 7 rfl ?_)
    refine e_icmp_ge 25 dX4_next_7 (by decide) (fun c7 => ?_) (fun c7 => pn 10 rfl ?_)
    · refine e_iload_n dX4_next_25 rfl (pn 26 rfl ?_)
      have hc : ¬ p < u.length := fun q => nI_ge q (by omega) c7
      exact e_iret dX4_next_26 rfl (by rw [nxF, if_neg (fun q => hc q.1)]) rfl
    · have hc : p < u.length := Nat.lt_of_not_le (fun q => c7 (nI_le q (by omega)))
      refine e_aload_n dX4_next_10 rfl (pn 11 rfl ?_)
      refine e_iload_n dX4_next_11 rfl (pn 12 rfl ?_)
      refine c_V1 dX4_next_12 ml_X4_35 mv_X4_letter (by decide) (w_letter ok h (show p < 32 by omega)) h rfl rfl (Nat.le_of_ble_eq_true rfl) (pn 15 rfl ?_)
      refine e_iload_n dX4_next_15 rfl (pn 16 rfl ?_)
      refine e_icmp_eq 25 dX4_next_16 (by decide) (fun c16 => ?_) (fun c16 => pn 19 rfl ?_)
      · refine e_iload_n dX4_next_25 rfl (pn 26 rfl ?_)
        have e := (nI_eq (by have := h4 p; omega) hl).mp c16
        exact e_iret dX4_next_26 rfl (by rw [nxF, if_neg (fun q => q.2 e)]) rfl
      · refine s_inc [_, _, _, _] (1) dX4_next_19 (by decide) rfl (Nat.le_of_ble_eq_true rfl) rfl (pn 22 rfl ?_)
        refine e_goto 2 dX4_next_22 (by decide) ?_
        have e : nxF u l (f + 1) p = nxF u l f (p + 1) := by rw [nxF, if_pos ⟨hc, fun q => c16 (by rw [q])⟩]
        rw [e, nI_1]
        exact ih (p + 1) (by omega) (by omega)
theorem w_next {w : Wd} {i : Nat} {u : List Nat} (ok : okW u) (h : w[i]? = some (rowW u)) {l p : Nat} (hl : l < 2 ^ 31) (hp : p < 2 ^ 30) : CW mX4_next [.ref i, .int (nI l), .int (nI p)] w (some (.int (nI (nxW u l p)))) w := by
  refine cw_of (M := mX4_next) fx_X4_next (lv := [.ref i, .int (nI l), .int (nI p), dmy]) rfl (Nat.le_of_ble_eq_true rfl) ?_
  refine e_iload_n dX4_next_0 rfl (pn 1 rfl ?_)
  refine s_in [_, _, _, _] dX4_next_1 (Nat.le_of_ble_eq_true rfl) rfl (pn 2 rfl ?_)
  exact w_next_loop ok h l p hl _ p (Nat.le_refl _) hp
