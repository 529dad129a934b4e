/-! LostLetters$Pair: this at 22, lengths at 23, numbers at 24, first at 25 -/
theorem cx (i j : Nat) : nI i * 25 + nI j = nI (i * 25 + j) := by rw [show (25 : Int32) = nI 25 from rfl, pk_mul, nI_add]
theorem m1_lt (k : Nat) (hk : k < 2 ^ 31) : nI k + (-1) < 0 ↔ k = 0 := by
  cases k with
  | zero => exact ⟨fun _ => rfl, fun _ => by decide⟩
  | succ k => rw [pk_m1]; exact ⟨fun h => absurd h (nI_pos (by omega)), fun h => by omega⟩
theorem p_cell (w : Wd) (x y : Int32) : CW mX2_cell [.int x, .int y] w (some (.int (x * 25 + y))) w := by
  refine cw_of (M := mX2_cell) fx_X2_cell (lv := [.int x, .int y]) rfl (Nat.le_of_ble_eq_true rfl) ?_
  refine e_iload_n dX2_cell_0 rfl (pn 1 rfl ?_)
  refine e_bi (25) dX2_cell_1 (by decide) (pn 3 rfl ?_)
  refine e_imul dX2_cell_3 (pn 4 rfl ?_)
  refine e_iload_n dX2_cell_4 rfl (pn 5 rfl ?_)
  refine e_iadd dX2_cell_5 (pn 6 rfl ?_)
  exact e_iret dX2_cell_6 rfl rfl rfl
theorem pw {M : Mt} {sc : Option (Nat × (Nat → Int32))} {pc : Nat} {lv st : List Value} {w w1 : Wd} {r : Option Value} {w' : Wd} (h : w = w1) (k : EW M sc pc lv st w1 r w') : EW M sc pc lv st w r w' := h ▸ k
/-- the heap of a pair: this, its table, two words -/
def pH (w : Wd) (f : Nat → Int32) (a b : Nat) (t u : List Nat) : Prop := w[22]? = some (oB 2 [.ref 23, .ref 24, .ref 25]) ∧ w[23]? = some (aI 625 f) ∧ w[a]? = some (rowW t) ∧ w[b]? = some (rowW u) ∧ okW t ∧ okW u
theorem pH.up {w : Wd} {f : Nat → Int32} {a b : Nat} {t u : List Nat} (h : pH w f a b t u) (g : Nat → Int32) : pH (w.set 23 (aI 625 g)) g a b t u := by
  obtain ⟨h1, h2, h3, h4, h5, h6⟩ := h
  have ea : 23 ≠ a := fun e => by subst e; rw [h2] at h3; cases h3
  have eb : 23 ≠ b := fun e => by subst e; rw [h2] at h4; cases h4
  exact ⟨gne (by decide) h1, gse h2, gne ea h3, gne eb h4, h5, h6⟩
def lgV (f : Nat → Int32) (t u : List Nat) (i j : Nat) : Int32 :=
  if i < t.length ∧ j < u.length then (if t.getD i 0 = u.getD j 0 then f ((i + 1) * 25 + (j + 1)) + 1 else (if f ((i + 1) * 25 + j) < f (i * 25 + (j + 1)) then f (i * 25 + (j + 1)) else f ((i + 1) * 25 + j))) else 0
theorem p_lF {w : Wd} {f : Nat → Int32} {a b : Nat} {t u : List Nat} (h : pH w f a b t u) {i j : Nat} (hi : i ≤ t.length) (hj : j ≤ u.length) : CW mX2_longestFrom [.ref 22, .ref a, .int (nI i), .ref b, .int (nI j)] w (some (.int (lgV f t u i j))) w := by
  obtain ⟨h1, h2, h3, h4, h5, h6⟩ := h
  have b1 := h5.1
  have b2 := h6.1
  have l1 := okL_get h5.2 i
  have l2 := okL_get h6.2 j
  refine cw_of (M := mX2_longestFrom) fx_X2_longestFrom (lv := [.ref 22, .ref a, .int (nI i), .ref b, .int (nI j)]) rfl (Nat.le_of_ble_eq_true rfl) ?_
  refine e_iload_n dX2_longestFrom_0 rfl (pn 1 rfl ?_)
  refine e_aload_n dX2_longestFrom_1 rfl (pn 2 rfl ?_)
  refine e_get dX2_longestFrom_2 fl_X2_26 h3 rfl (pn 5 rfl ?_)
  refine e_icmp_ge 17 dX2_longestFrom_5 (by decide) (fun c5 => ?_) (fun c5 => pn 8 rfl ?_)
  · have hc : ¬ i < t.length := fun q => nI_ge q (by omega) c5
    refine e_ic (0) dX2_longestFrom_17 (by decide) (pn 18 rfl ?_)
    exact e_iret dX2_longestFrom_18 rfl (by rw [lgV, if_neg (fun q => hc q.1)]) rfl
  · have hc : i < t.length := Nat.lt_of_not_le (fun q => c5 (nI_le q (by omega)))
    refine e_iload dX2_longestFrom_8 rfl (pn 10 rfl ?_)
    refine e_aload_n dX2_longestFrom_10 rfl (pn 11 rfl ?_)
    refine e_get dX2_longestFrom_11 fl_X2_26 h4 rfl (pn 14 rfl ?_)
    refine e_icmp_lt 19 dX2_longestFrom_14 (by decide) (fun c14 => ?_) (fun c14 => pn 17 rfl ?_)
    · have hc2 : j < u.length := Nat.lt_of_not_le (fun q => nI_nlt q (by omega) c14)
      refine e_aload_n dX2_longestFrom_19 rfl (pn 20 rfl ?_)
      refine e_iload_n dX2_longestFrom_20 rfl (pn 21 rfl ?_)
      refine c_V1 dX2_longestFrom_21 ml_X2_38 mv_X4_letter (by decide) (w_letter h5 h3 (show i < 32 by omega)) h3 rfl rfl (Nat.le_of_ble_eq_true rfl) (pn 24 rfl ?_)
      refine e_aload_n dX2_longestFrom_24 rfl (pn 25 rfl ?_)
      refine e_iload dX2_longestFrom_25 rfl (pn 27 rfl ?_)
      refine c_V1 dX2_longestFrom_27 ml_X2_38 mv_X4_letter (by decide) (w_letter h6 h4 (show j < 32 by omega)) h4 rfl rfl (Nat.le_of_ble_eq_true rfl) (pn 30 rfl ?_)
      refine e_icmp_ne 51 dX2_longestFrom_30 (by decide) (fun c30 => ?_) (fun c30 => pn 33 rfl ?_)
      · have hne : ¬ t.getD i 0 = u.getD j 0 := fun q => c30 (by rw [q])
        refine e_aload_n dX2_longestFrom_51 rfl (pn 52 rfl ?_)
        refine e_get dX2_longestFrom_52 fl_X2_11 h1 rfl (pn 55 rfl ?_)
        refine e_iload_n dX2_longestFrom_55 rfl (pn 56 rfl ?_)
        refine e_ic (1) dX2_longestFrom_56 (by decide) (pn 57 rfl ?_)
        refine e_iadd dX2_longestFrom_57 (pn 58 rfl ?_)
        refine e_iload dX2_longestFrom_58 rfl (pn 60 rfl ?_)
        refine c_S1 dX2_longestFrom_60 ml_X2_30 ms_X2_cell (by decide) (p_cell w _ _) rfl rfl (Nat.le_of_ble_eq_true rfl) (pn 63 rfl ?_)
        refine e_iald ((i + 1) * 25 + j) dX2_longestFrom_63 h2 (by rw [nI_1, cx]) (by omega) (by omega) (pn 64 rfl ?_)
        refine e_aload_n dX2_longestFrom_64 rfl (pn 65 rfl ?_)
        refine e_get dX2_longestFrom_65 fl_X2_11 h1 rfl (pn 68 rfl ?_)
        refine e_iload_n dX2_longestFrom_68 rfl (pn 69 rfl ?_)
        refine e_iload dX2_longestFrom_69 rfl (pn 71 rfl ?_)
        refine e_ic (1) dX2_longestFrom_71 (by decide) (pn 72 rfl ?_)
        refine e_iadd dX2_longestFrom_72 (pn 73 rfl ?_)
        refine c_S1 dX2_longestFrom_73 ml_X2_30 ms_X2_cell (by decide) (p_cell w _ _) rfl rfl (Nat.le_of_ble_eq_true rfl) (pn 76 rfl ?_)
        refine e_iald (i * 25 + (j + 1)) dX2_longestFrom_76 h2 (by rw [nI_1, cx]) (by omega) (by omega) (pn 77 rfl ?_)
        refine e_mmax dX2_longestFrom_77 lm_X2_42 (by decide) (Nat.le_of_ble_eq_true rfl) (pn 80 rfl ?_)
        exact e_iret dX2_longestFrom_80 rfl (by rw [lgV, if_pos ⟨hc, hc2⟩, if_neg hne]) rfl
      · have he : t.getD i 0 = u.getD j 0 := (nI_eq (by omega) (by omega)).mp c30
        refine e_aload_n dX2_longestFrom_33 rfl (pn 34 rfl ?_)
        refine e_get dX2_longestFrom_34 fl_X2_11 h1 rfl (pn 37 rfl ?_)
        refine e_iload_n dX2_longestFrom_37 rfl (pn 38 rfl ?_)
        refine e_ic (1) dX2_longestFrom_38 (by decide) (pn 39 rfl ?_)
        refine e_iadd dX2_longestFrom_39 (pn 40 rfl ?_)
        refine e_iload dX2_longestFrom_40 rfl (pn 42 rfl ?_)
        refine e_ic (1) dX2_longestFrom_42 (by decide) (pn 43 rfl ?_)
        refine e_iadd dX2_longestFrom_43 (pn 44 rfl ?_)
        refine c_S1 dX2_longestFrom_44 ml_X2_30 ms_X2_cell (by decide) (p_cell w _ _) rfl rfl (Nat.le_of_ble_eq_true rfl) (pn 47 rfl ?_)
        refine e_iald ((i + 1) * 25 + (j + 1)) dX2_longestFrom_47 h2 (by rw [nI_1, nI_1, cx]) (by omega) (by omega) (pn 48 rfl ?_)
        refine e_ic (1) dX2_longestFrom_48 (by decide) (pn 49 rfl ?_)
        refine e_iadd dX2_longestFrom_49 (pn 50 rfl ?_)
        exact e_iret dX2_longestFrom_50 rfl (by rw [lgV, if_pos ⟨hc, hc2⟩, if_pos he]) rfl
    · have hc2 : ¬ j < u.length := fun q => c14 (nI_lt q (by omega))
      refine e_ic (0) dX2_longestFrom_17 (by decide) (pn 18 rfl ?_)
      exact e_iret dX2_longestFrom_18 rfl (by rw [lgV, if_neg (fun q => hc2 q.2)]) rfl
def edV (f : Nat → Int32) (t u : List Nat) (i j : Nat) : Int32 :=
  if i < t.length ∧ j < u.length then (if t.getD i 0 = u.getD j 0 then f ((i + 1) * 25 + (j + 1)) else
    1 + (let y := (if f (i * 25 + (j + 1)) < f ((i + 1) * 25 + j) then f (i * 25 + (j + 1)) else f ((i + 1) * 25 + j)); if y < f ((i + 1) * 25 + (j + 1)) then y else f ((i + 1) * 25 + (j + 1)))) else nI t.length - nI i + nI u.length - nI j
theorem p_eF {w : Wd} {f : Nat → Int32} {a b : Nat} {t u : List Nat} (h : pH w f a b t u) {i j : Nat} (hi : i ≤ t.length) (hj : j ≤ u.length) : CW mX2_editsFrom [.ref 22, .ref a, .int (nI i), .ref b, .int (nI j)] w (some (.int (edV f t u i j))) w := by
  obtain ⟨h1, h2, h3, h4, h5, h6⟩ := h
  have b1 := h5.1
  have b2 := h6.1
  have l1 := okL_get h5.2 i
  have l2 := okL_get h6.2 j
  refine cw_of (M := mX2_editsFrom) fx_X2_editsFrom (lv := [.ref 22, .ref a, .int (nI i), .ref b, .int (nI j), dmy]) rfl (Nat.le_of_ble_eq_true rfl) ?_
  refine e_iload_n dX2_editsFrom_0 rfl (pn 1 rfl ?_)
  refine e_aload_n dX2_editsFrom_1 rfl (pn 2 rfl ?_)
  refine e_get dX2_editsFrom_2 fl_X2_26 h3 rfl (pn 5 rfl ?_)
  refine e_icmp_ge 17 dX2_editsFrom_5 (by decide) (fun c5 => ?_) (fun c5 => pn 8 rfl ?_)
  · have hc : ¬ i < t.length := fun q => nI_ge q (by omega) c5
    refine e_aload_n dX2_editsFrom_17 rfl (pn 18 rfl ?_)
    refine e_get dX2_editsFrom_18 fl_X2_26 h3 rfl (pn 21 rfl ?_)
    refine e_iload_n dX2_editsFrom_21 rfl (pn 22 rfl ?_)
    refine e_isub dX2_editsFrom_22 (pn 23 rfl ?_)
    refine e_aload_n dX2_editsFrom_23 rfl (pn 24 rfl ?_)
    refine e_get dX2_editsFrom_24 fl_X2_26 h4 rfl (pn 27 rfl ?_)
    refine e_iadd dX2_editsFrom_27 (pn 28 rfl ?_)
    refine e_iload dX2_editsFrom_28 rfl (pn 30 rfl ?_)
    refine e_isub dX2_editsFrom_30 (pn 31 rfl ?_)
    exact e_iret dX2_editsFrom_31 rfl (by rw [edV, if_neg (fun q => hc q.1)]) rfl
  · have hc : i < t.length := Nat.lt_of_not_le (fun q => c5 (nI_le q (by omega)))
    refine e_iload dX2_editsFrom_8 rfl (pn 10 rfl ?_)
    refine e_aload_n dX2_editsFrom_10 rfl (pn 11 rfl ?_)
    refine e_get dX2_editsFrom_11 fl_X2_26 h4 rfl (pn 14 rfl ?_)
    refine e_icmp_lt 32 dX2_editsFrom_14 (by decide) (fun c14 => ?_) (fun c14 => pn 17 rfl ?_)
    · have hc2 : j < u.length := Nat.lt_of_not_le (fun q => nI_nlt q (by omega) c14)
      refine e_aload_n dX2_editsFrom_32 rfl (pn 33 rfl ?_)
      refine e_get dX2_editsFrom_33 fl_X2_11 h1 rfl (pn 36 rfl ?_)
      refine e_iload_n dX2_editsFrom_36 rfl (pn 37 rfl ?_)
      refine e_ic (1) dX2_editsFrom_37 (by decide) (pn 38 rfl ?_)
      refine e_iadd dX2_editsFrom_38 (pn 39 rfl ?_)
      refine e_iload dX2_editsFrom_39 rfl (pn 41 rfl ?_)
      refine e_ic (1) dX2_editsFrom_41 (by decide) (pn 42 rfl ?_)
      refine e_iadd dX2_editsFrom_42 (pn 43 rfl ?_)
      refine c_S1 dX2_editsFrom_43 ml_X2_30 ms_X2_cell (by decide) (p_cell w _ _) rfl rfl (Nat.le_of_ble_eq_true rfl) (pn 46 rfl ?_)
      refine e_iald ((i + 1) * 25 + (j + 1)) dX2_editsFrom_46 h2 (by rw [nI_1, nI_1, cx]) (by omega) (by omega) (pn 47 rfl ?_)
      refine s_i [_, _, _, _, _, _] dX2_editsFrom_47 (Nat.le_of_ble_eq_true rfl) rfl (pn 49 rfl ?_)
      refine e_aload_n dX2_editsFrom_49 rfl (pn 50 rfl ?_)
      refine e_iload_n dX2_editsFrom_50 rfl (pn 51 rfl ?_)
      refine c_V1 dX2_editsFrom_51 ml_X2_38 mv_X4_letter (by decide) (w_letter h5 h3 (show i < 32 by omega)) h3 rfl rfl (Nat.le_of_ble_eq_true rfl) (pn 54 rfl ?_)
      refine e_aload_n dX2_editsFrom_54 rfl (pn 55 rfl ?_)
      refine e_iload dX2_editsFrom_55 rfl (pn 57 rfl ?_)
      refine c_V1 dX2_editsFrom_57 ml_X2_38 mv_X4_letter (by decide) (w_letter h6 h4 (show j < 32 by omega)) h4 rfl rfl (Nat.le_of_ble_eq_true rfl) (pn 60 rfl ?_)
      refine e_icmp_ne 66 dX2_editsFrom_60 (by decide) (fun c60 => ?_) (fun c60 => pn 63 rfl ?_)
      · have hne : ¬ t.getD i 0 = u.getD j 0 := fun q => c60 (by rw [q])
        refine e_ic (1) dX2_editsFrom_66 (by decide) (pn 67 rfl ?_)
        refine e_iload dX2_editsFrom_67 rfl (pn 69 rfl ?_)
        refine e_aload_n dX2_editsFrom_69 rfl (pn 70 rfl ?_)
        refine e_get dX2_editsFrom_70 fl_X2_11 h1 rfl (pn 73 rfl ?_)
        refine e_iload_n dX2_editsFrom_73 rfl (pn 74 rfl ?_)
        refine e_ic (1) dX2_editsFrom_74 (by decide) (pn 75 rfl ?_)
        refine e_iadd dX2_editsFrom_75 (pn 76 rfl ?_)
        refine e_iload dX2_editsFrom_76 rfl (pn 78 rfl ?_)
        refine c_S1 dX2_editsFrom_78 ml_X2_30 ms_X2_cell (by decide) (p_cell w _ _) rfl rfl (Nat.le_of_ble_eq_true rfl) (pn 81 rfl ?_)
        refine e_iald ((i + 1) * 25 + j) dX2_editsFrom_81 h2 (by rw [nI_1, cx]) (by omega) (by omega) (pn 82 rfl ?_)
        refine e_aload_n dX2_editsFrom_82 rfl (pn 83 rfl ?_)
        refine e_get dX2_editsFrom_83 fl_X2_11 h1 rfl (pn 86 rfl ?_)
        refine e_iload_n dX2_editsFrom_86 rfl (pn 87 rfl ?_)
        refine e_iload dX2_editsFrom_87 rfl (pn 89 rfl ?_)
        refine e_ic (1) dX2_editsFrom_89 (by decide) (pn 90 rfl ?_)
        refine e_iadd dX2_editsFrom_90 (pn 91 rfl ?_)
        refine c_S1 dX2_editsFrom_91 ml_X2_30 ms_X2_cell (by decide) (p_cell w _ _) rfl rfl (Nat.le_of_ble_eq_true rfl) (pn 94 rfl ?_)
        refine e_iald (i * 25 + (j + 1)) dX2_editsFrom_94 h2 (by rw [nI_1, cx]) (by omega) (by omega) (pn 95 rfl ?_)
        refine e_mmin dX2_editsFrom_95 lm_X2_68 (by decide) (Nat.le_of_ble_eq_true rfl) (pn 98 rfl ?_)
        refine e_mmin dX2_editsFrom_98 lm_X2_68 (by decide) (Nat.le_of_ble_eq_true rfl) (pn 101 rfl ?_)
        refine e_iadd dX2_editsFrom_101 (pn 102 rfl ?_)
        exact e_iret dX2_editsFrom_102 rfl (by rw [edV, if_pos ⟨hc, hc2⟩, if_neg hne]) rfl
      · have he : t.getD i 0 = u.getD j 0 := (nI_eq (by omega) (by omega)).mp c60
        refine e_iload dX2_editsFrom_63 rfl (pn 65 rfl ?_)
        exact e_iret dX2_editsFrom_65 rfl (by rw [edV, if_pos ⟨hc, hc2⟩, if_pos he]) rfl
    · have hc2 : ¬ j < u.length := fun q => c14 (nI_lt q (by omega))
      refine e_aload_n dX2_editsFrom_17 rfl (pn 18 rfl ?_)
      refine e_get dX2_editsFrom_18 fl_X2_26 h3 rfl (pn 21 rfl ?_)
      refine e_iload_n dX2_editsFrom_21 rfl (pn 22 rfl ?_)
      refine e_isub dX2_editsFrom_22 (pn 23 rfl ?_)
      refine e_aload_n dX2_editsFrom_23 rfl (pn 24 rfl ?_)
      refine e_get dX2_editsFrom_24 fl_X2_26 h4 rfl (pn 27 rfl ?_)
      refine e_iadd dX2_editsFrom_27 (pn 28 rfl ?_)
      refine e_iload dX2_editsFrom_28 rfl (pn 30 rfl ?_)
      refine e_isub dX2_editsFrom_30 (pn 31 rfl ?_)
      exact e_iret dX2_editsFrom_31 rfl (by rw [edV, if_neg (fun q => hc2 q.2)]) rfl
def lgI (t u : List Nat) (i : Nat) : Nat → (Nat → Int32) → Nat → Int32
  | 0, f => f
  | k + 1, f => lgI t u i k (va_up f (i * 25 + k) (lgV f t u i k))
def lgO (t u : List Nat) : Nat → (Nat → Int32) → Nat → Int32
  | 0, f => f
  | k + 1, f => lgO t u k (lgI t u k (u.length + 1) f)
theorem p_lg_in {w : Wd} {f0 : Nat → Int32} {a b : Nat} {t u : List Nat} (h : pH w f0 a b t u) {r : Option Value} {w' : Wd} (i : Nat) (hi : i ≤ t.length) : ∀ (k : Nat) (f : Nat → Int32), k ≤ u.length + 1 → EW mX2_longest none 46 [.ref 22, .ref a, .ref b, .int (nI i), dmy] [] (w.set 23 (aI 625 (lgI t u i k f))) r w' → EW mX2_longest none 15 [.ref 22, .ref a, .ref b, .int (nI i), .int (nI k + (-1))] [] (w.set 23 (aI 625 f)) r w' := by
  have b1 := h.2.2.2.2.1.1
  have b2 := h.2.2.2.2.2.1
  intro k
  induction k with
  | zero =>
    intro f hk K
    refine e_iload dX2_longest_15 rfl (pn 17 rfl ?_)
    refine e_if_lt 46 dX2_longest_17 (by decide) (fun c17 => ?_) (fun c17 => pn 20 rfl ?_)
    · exact e_dr [_, _, _, _, _] 4 rfl K
    · exact absurd ((m1_lt 0 (by decide)).mpr rfl) c17
  | succ k ih =>
    intro f hk K
    have hp := h.up f
    simp only [pk_m1]
    refine e_iload dX2_longest_15 rfl (pn 17 rfl ?_)
    refine e_if_lt 46 dX2_longest_17 (by decide) (fun c17 => ?_) (fun c17 => pn 20 rfl ?_)
    · exact absurd c17 (nI_pos (by omega))
    · refine e_aload_n dX2_longest_20 rfl (pn 21 rfl ?_)
      refine e_get dX2_longest_21 fl_X2_11 hp.1 rfl (pn 24 rfl ?_)
      refine e_iload_n dX2_longest_24 rfl (pn 25 rfl ?_)
      refine e_iload dX2_longest_25 rfl (pn 27 rfl ?_)
      refine c_S1 dX2_longest_27 ml_X2_30 ms_X2_cell (by decide) (p_cell _ _ _) rfl rfl (Nat.le_of_ble_eq_true rfl) (pn 30 rfl ?_)
      refine e_aload_n dX2_longest_30 rfl (pn 31 rfl ?_)
      refine e_aload_n dX2_longest_31 rfl (pn 32 rfl ?_)
      refine e_iload_n dX2_longest_32 rfl (pn 33 rfl ?_)
      refine e_aload_n dX2_longest_33 rfl (pn 34 rfl ?_)
      refine e_iload dX2_longest_34 rfl (pn 36 rfl ?_)
      refine c_V1 dX2_longest_36 ml_X2_34 mv_X2_longestFrom (by decide) (p_lF hp hi (by omega)) hp.1 rfl rfl (Nat.le_of_ble_eq_true rfl) (pn 39 rfl ?_)
      refine e_iast (i * 25 + k) dX2_longest_39 hp.2.1 (cx i k) (by omega) (by omega) (pn 40 rfl ?_)
      rw [List.set_set]
      refine s_inc [_, _, _, _, _] (-1) dX2_longest_40 (by decide) rfl (Nat.le_of_ble_eq_true rfl) rfl (pn 43 rfl ?_)
      refine e_goto 15 dX2_longest_43 (by decide) ?_
      exact ih _ (by omega) K
theorem p_lg_out {w : Wd} {f0 : Nat → Int32} {a b : Nat} {t u : List Nat} (h : pH w f0 a b t u) {r : Option Value} {w' : Wd} : ∀ (k : Nat) (f : Nat → Int32), k ≤ t.length + 1 → EW mX2_longest none 52 [.ref 22, .ref a, .ref b, dmy, dmy] [] (w.set 23 (aI 625 (lgO t u k f))) r w' → EW mX2_longest none 5 [.ref 22, .ref a, .ref b, .int (nI k + (-1)), dmy] [] (w.set 23 (aI 625 f)) r w' := by
  have b1 := h.2.2.2.2.1.1
  have b2 := h.2.2.2.2.2.1
  intro k
  induction k with
  | zero =>
    intro f hk K
    refine e_iload_n dX2_longest_5 rfl (pn 6 rfl ?_)
    refine e_if_lt 52 dX2_longest_6 (by decide) (fun c6 => ?_) (fun c6 => pn 9 rfl ?_)
    · exact e_dr [_, _, _, _, _] 3 rfl K
    · exact absurd ((m1_lt 0 (by decide)).mpr rfl) c6
  | succ k ih =>
    intro f hk K
    have hp := h.up f
    simp only [pk_m1]
    refine e_iload_n dX2_longest_5 rfl (pn 6 rfl ?_)
    refine e_if_lt 52 dX2_longest_6 (by decide) (fun c6 => ?_) (fun c6 => pn 9 rfl ?_)
    · exact absurd c6 (nI_pos (by omega))
    · refine e_aload_n dX2_longest_9 rfl (pn 10 rfl ?_)
      refine e_get dX2_longest_10 fl_X2_26 hp.2.2.2.1 rfl (pn 13 rfl ?_)
      refine s_i [_, _, _, _, _] dX2_longest_13 (Nat.le_of_ble_eq_true rfl) rfl (pn 15 rfl ?_)
      rw [← pk_m1 u.length]
      refine p_lg_in h k (by omega) (u.length + 1) f (Nat.le_refl _) ?_
      refine s_inc [_, _, _, _, _] (-1) dX2_longest_46 (by decide) rfl (Nat.le_of_ble_eq_true rfl) rfl (pn 49 rfl ?_)
      refine e_goto 5 dX2_longest_49 (by decide) ?_
      exact ih _ (by omega) K
theorem p_lg {w : Wd} {f : Nat → Int32} {a b : Nat} {t u : List Nat} (h : pH w f a b t u) : CW mX2_longest [.ref 22, .ref a, .ref b] w (some (.int (lgO t u (t.length + 1) f 0))) (w.set 23 (aI 625 (lgO t u (t.length + 1) f))) := by
  refine cw_of (M := mX2_longest) fx_X2_longest (lv := [.ref 22, .ref a, .ref b, dmy, dmy]) rfl (Nat.le_of_ble_eq_true rfl) ?_
  refine e_aload_n dX2_longest_0 rfl (pn 1 rfl ?_)
  refine e_get dX2_longest_1 fl_X2_26 h.2.2.1 rfl (pn 4 rfl ?_)
  refine s_in [_, _, _, _, _] dX2_longest_4 (Nat.le_of_ble_eq_true rfl) rfl (pn 5 rfl ?_)
  refine pw (set_id h.2.1).symm ?_
  rw [← pk_m1 t.length]
  refine p_lg_out h (t.length + 1) f (Nat.le_refl _) ?_
  refine e_aload_n dX2_longest_52 rfl (pn 53 rfl ?_)
  refine e_get dX2_longest_53 fl_X2_11 (h.up _).1 rfl (pn 56 rfl ?_)
  refine e_ic (0) dX2_longest_56 (by decide) (pn 57 rfl ?_)
  refine e_iald (0) dX2_longest_57 (h.up _).2.1 rfl (by decide) (by omega) (pn 58 rfl ?_)
  exact e_iret dX2_longest_58 rfl rfl rfl

def edI (t u : List Nat) (i : Nat) : Nat → (Nat → Int32) → Nat → Int32
  | 0, f => f
  | k + 1, f => edI t u i k (va_up f (i * 25 + k) (edV f t u i k))
def edO (t u : List Nat) : Nat → (Nat → Int32) → Nat → Int32
  | 0, f => f
  | k + 1, f => edO t u k (edI t u k (u.length + 1) f)
theorem p_ed_in {w : Wd} {f0 : Nat → Int32} {a b : Nat} {t u : List Nat} (h : pH w f0 a b t u) {r : Option Value} {w' : Wd} (i : Nat) (hi : i ≤ t.length) : ∀ (k : Nat) (f : Nat → Int32), k ≤ u.length + 1 → EW mX2_edits none 46 [.ref 22, .ref a, .ref b, .int (nI i), dmy] [] (w.set 23 (aI 625 (edI t u i k f))) r w' → EW mX2_edits none 15 [.ref 22, .ref a, .ref b, .int (nI i), .int (nI k + (-1))] [] (w.set 23 (aI 625 f)) r w' := by
  have b1 := h.2.2.2.2.1.1
  have b2 := h.2.2.2.2.2.1
  intro k
  induction k with
  | zero =>
    intro f hk K
    refine e_iload dX2_edits_15 rfl (pn 17 rfl ?_)
    refine e_if_lt 46 dX2_edits_17 (by decide) (fun c17 => ?_) (fun c17 => pn 20 rfl ?_)
    · exact e_dr [_, _, _, _, _] 4 rfl K
    · exact absurd ((m1_lt 0 (by decide)).mpr rfl) c17
  | succ k ih =>
    intro f hk K
    have hp := h.up f
    simp only [pk_m1]
    refine e_iload dX2_edits_15 rfl (pn 17 rfl ?_)
    refine e_if_lt 46 dX2_edits_17 (by decide) (fun c17 => ?_) (fun c17 => pn 20 rfl ?_)
    · exact absurd c17 (nI_pos (by omega))
    · refine e_aload_n dX2_edits_20 rfl (pn 21 rfl ?_)
      refine e_get dX2_edits_21 fl_X2_11 hp.1 rfl (pn 24 rfl ?_)
      refine e_iload_n dX2_edits_24 rfl (pn 25 rfl ?_)
      refine e_iload dX2_edits_25 rfl (pn 27 rfl ?_)
      refine c_S1 dX2_edits_27 ml_X2_30 ms_X2_cell (by decide) (p_cell _ _ _) rfl rfl (Nat.le_of_ble_eq_true rfl) (pn 30 rfl ?_)
      refine e_aload_n dX2_edits_30 rfl (pn 31 rfl ?_)
      refine e_aload_n dX2_edits_31 rfl (pn 32 rfl ?_)
      refine e_iload_n dX2_edits_32 rfl (pn 33 rfl ?_)
      refine e_aload_n dX2_edits_33 rfl (pn 34 rfl ?_)
      refine e_iload dX2_edits_34 rfl (pn 36 rfl ?_)
      refine c_V1 dX2_edits_36 ml_X2_65 mv_X2_editsFrom (by decide) (p_eF hp hi (by omega)) hp.1 rfl rfl (Nat.le_of_ble_eq_true rfl) (pn 39 rfl ?_)
      refine e_iast (i * 25 + k) dX2_edits_39 hp.2.1 (cx i k) (by omega) (by omega) (pn 40 rfl ?_)
      rw [List.set_set]
      refine s_inc [_, _, _, _, _] (-1) dX2_edits_40 (by decide) rfl (Nat.le_of_ble_eq_true rfl) rfl (pn 43 rfl ?_)
      refine e_goto 15 dX2_edits_43 (by decide) ?_
      exact ih _ (by omega) K
theorem p_ed_out {w : Wd} {f0 : Nat → Int32} {a b : Nat} {t u : List Nat} (h : pH w f0 a b t u) {r : Option Value} {w' : Wd} : ∀ (k : Nat) (f : Nat → Int32), k ≤ t.length + 1 → EW mX2_edits none 52 [.ref 22, .ref a, .ref b, dmy, dmy] [] (w.set 23 (aI 625 (edO t u k f))) r w' → EW mX2_edits none 5 [.ref 22, .ref a, .ref b, .int (nI k + (-1)), dmy] [] (w.set 23 (aI 625 f)) r w' := by
  have b1 := h.2.2.2.2.1.1
  have b2 := h.2.2.2.2.2.1
  intro k
  induction k with
  | zero =>
    intro f hk K
    refine e_iload_n dX2_edits_5 rfl (pn 6 rfl ?_)
    refine e_if_lt 52 dX2_edits_6 (by decide) (fun c6 => ?_) (fun c6 => pn 9 rfl ?_)
    · exact e_dr [_, _, _, _, _] 3 rfl K
    · exact absurd ((m1_lt 0 (by decide)).mpr rfl) c6
  | succ k ih =>
    intro f hk K
    have hp := h.up f
    simp only [pk_m1]
    refine e_iload_n dX2_edits_5 rfl (pn 6 rfl ?_)
    refine e_if_lt 52 dX2_edits_6 (by decide) (fun c6 => ?_) (fun c6 => pn 9 rfl ?_)
    · exact absurd c6 (nI_pos (by omega))
    · refine e_aload_n dX2_edits_9 rfl (pn 10 rfl ?_)
      refine e_get dX2_edits_10 fl_X2_26 hp.2.2.2.1 rfl (pn 13 rfl ?_)
      refine s_i [_, _, _, _, _] dX2_edits_13 (Nat.le_of_ble_eq_true rfl) rfl (pn 15 rfl ?_)
      rw [← pk_m1 u.length]
      refine p_ed_in h k (by omega) (u.length + 1) f (Nat.le_refl _) ?_
      refine s_inc [_, _, _, _, _] (-1) dX2_edits_46 (by decide) rfl (Nat.le_of_ble_eq_true rfl) rfl (pn 49 rfl ?_)
      refine e_goto 5 dX2_edits_49 (by decide) ?_
      exact ih _ (by omega) K
theorem p_ed {w : Wd} {f : Nat → Int32} {a b : Nat} {t u : List Nat} (h : pH w f a b t u) : CW mX2_edits [.ref 22, .ref a, .ref b] w (some (.int (edO t u (t.length + 1) f 0))) (w.set 23 (aI 625 (edO t u (t.length + 1) f))) := by
  refine cw_of (M := mX2_edits) fx_X2_edits (lv := [.ref 22, .ref a, .ref b, dmy, dmy]) rfl (Nat.le_of_ble_eq_true rfl) ?_
  refine e_aload_n dX2_edits_0 rfl (pn 1 rfl ?_)
  refine e_get dX2_edits_1 fl_X2_26 h.2.2.1 rfl (pn 4 rfl ?_)
  refine s_in [_, _, _, _, _] dX2_edits_4 (Nat.le_of_ble_eq_true rfl) rfl (pn 5 rfl ?_)
  refine pw (set_id h.2.1).symm ?_
  rw [← pk_m1 t.length]
  refine p_ed_out h (t.length + 1) f (Nat.le_refl _) ?_
  refine e_aload_n dX2_edits_52 rfl (pn 53 rfl ?_)
  refine e_get dX2_edits_53 fl_X2_11 (h.up _).1 rfl (pn 56 rfl ?_)
  refine e_ic (0) dX2_edits_56 (by decide) (pn 57 rfl ?_)
  refine e_iald (0) dX2_edits_57 (h.up _).2.1 rfl (by decide) (by omega) (pn 58 rfl ?_)
  exact e_iret dX2_edits_58 rfl rfl rfl


abbrev gsW (f : Nat → Int32) (t u : List Nat) (p r : Nat) (len : Int32) : Prop := p < t.length ∧ r < u.length ∧ f ((p + 1) * 25 + (r + 1)) + 1 = len
theorem p_go {w : Wd} {f : Nat → Int32} {a b : Nat} {t u : List Nat} (h : pH w f a b t u) {p r : Nat} (hp : p < 2 ^ 30) (hr : r < 2 ^ 30) (len : Int32) : CW mX2_goesOn [.ref 22, .ref a, .int (nI p), .ref b, .int (nI r), .int len] w (some (.int (if gsW f t u p r len then 1 else 0))) w := by
  obtain ⟨h1, h2, h3, h4, h5, h6⟩ := h
  have b1 := h5.1
  have b2 := h6.1
  refine cw_of (M := mX2_goesOn) fx_X2_goesOn (lv := [.ref 22, .ref a, .int (nI p), .ref b, .int (nI r), .int len]) rfl (Nat.le_of_ble_eq_true rfl) ?_
  refine e_iload_n dX2_goesOn_0 rfl (pn 1 rfl ?_)
  refine e_aload_n dX2_goesOn_1 rfl (pn 2 rfl ?_)
  refine e_get dX2_goesOn_2 fl_X2_26 h3 rfl (pn 5 rfl ?_)
  refine e_icmp_ge 43 dX2_goesOn_5 (by decide) (fun c5 => ?_) (fun c5 => pn 8 rfl ?_)
  · have hc : ¬ p < t.length := fun q => nI_ge q (by omega) c5
    refine e_ic (0) dX2_goesOn_43 (by decide) (pn 44 rfl ?_)
    exact e_zret dX2_goesOn_44 rfl (by decide) (by rw [if_neg (fun q => hc q.1)]) rfl
  · have hc : p < t.length := Nat.lt_of_not_le (fun q => c5 (nI_le q (by omega)))
    refine e_iload dX2_goesOn_8 rfl (pn 10 rfl ?_)
    refine e_aload_n dX2_goesOn_10 rfl (pn 11 rfl ?_)
    refine e_get dX2_goesOn_11 fl_X2_26 h4 rfl (pn 14 rfl ?_)
    refine e_icmp_ge 43 dX2_goesOn_14 (by decide) (fun c14 => ?_) (fun c14 => pn 17 rfl ?_)
    · have hc2 : ¬ r < u.length := fun q => nI_ge q (by omega) c14
      refine e_ic (0) dX2_goesOn_43 (by decide) (pn 44 rfl ?_)
      exact e_zret dX2_goesOn_44 rfl (by decide) (by rw [if_neg (fun q => hc2 q.2.1)]) rfl
    · have hc2 : r < u.length := Nat.lt_of_not_le (fun q => c14 (nI_le q (by omega)))
      refine e_aload_n dX2_goesOn_17 rfl (pn 18 rfl ?_)
      refine e_get dX2_goesOn_18 fl_X2_11 h1 rfl (pn 21 rfl ?_)
      refine e_iload_n dX2_goesOn_21 rfl (pn 22 rfl ?_)
      refine e_ic (1) dX2_goesOn_22 (by decide) (pn 23 rfl ?_)
      refine e_iadd dX2_goesOn_23 (pn 24 rfl ?_)
      refine e_iload dX2_goesOn_24 rfl (pn 26 rfl ?_)
      refine e_ic (1) dX2_goesOn_26 (by decide) (pn 27 rfl ?_)
      refine e_iadd dX2_goesOn_27 (pn 28 rfl ?_)
      refine c_S1 dX2_goesOn_28 ml_X2_30 ms_X2_cell (by decide) (p_cell w _ _) rfl rfl (Nat.le_of_ble_eq_true rfl) (pn 31 rfl ?_)
      refine e_iald ((p + 1) * 25 + (r + 1)) dX2_goesOn_31 h2 (by rw [nI_1, nI_1, cx]) (by omega) (by omega) (pn 32 rfl ?_)
      refine e_ic (1) dX2_goesOn_32 (by decide) (pn 33 rfl ?_)
      refine e_iadd dX2_goesOn_33 (pn 34 rfl ?_)
      refine e_iload dX2_goesOn_34 rfl (pn 36 rfl ?_)
      refine e_icmp_ne 43 dX2_goesOn_36 (by decide) (fun c36 => ?_) (fun c36 => pn 39 rfl ?_)
      · refine e_ic (0) dX2_goesOn_43 (by decide) (pn 44 rfl ?_)
        exact e_zret dX2_goesOn_44 rfl (by decide) (by rw [if_neg (fun q => c36 q.2.2)]) rfl
      · refine e_ic (1) dX2_goesOn_39 (by decide) (pn 40 rfl ?_)
        refine e_goto 44 dX2_goesOn_40 (by decide) ?_
        exact e_zret dX2_goesOn_44 rfl (by decide) (by rw [if_pos ⟨hc, hc2, c36⟩]) rfl
theorem nxF_le (u : List Nat) (l : Nat) : ∀ f p, p ≤ nxF u l f p ∧ nxF u l f p ≤ p + f
  | 0, p => ⟨Nat.le_refl _, Nat.le_refl _⟩
  | f + 1, p => by
    rw [nxF]
    split
    · have := nxF_le u l f (p + 1)
      omega
    · omega
theorem nxW_le (u : List Nat) (l p : Nat) : p ≤ nxW u l p ∧ (nxW u l p ≤ u.length ∨ nxW u l p = p) := by
  have := nxF_le u l (u.length - p) p
  unfold nxW
  omega
theorem pH.up25 {w : Wd} {f : Nat → Int32} {a b : Nat} {t u : List Nat} (h : pH w f a b t u) (ea : 25 ≠ a) (eb : 25 ≠ b) (x : Cel) : pH (w.set 25 x) f a b t u :=
  ⟨gne (by decide) h.1, gne (by decide) h.2.1, gne ea h.2.2.1, gne eb h.2.2.2.1, h.2.2.2.2.1, h.2.2.2.2.2⟩
/-- the first letter that goes on -/
def flL (f : Nat → Int32) (t u : List Nat) (i j : Nat) (len : Int32) : Nat → Nat → Nat
  | 0, l => l
  | n + 1, l => if gsW f t u (nxW t l i) (nxW u l j) len then l else flL f t u i j len n (l + 1)
def flO (f : Nat → Int32) (t u : List Nat) (q : Nat) : Nat → Nat → Nat → List Nat → List Nat
  | 0, _, _, acc => acc
  | n + 1, i, j, acc => flO f t u q n (nxW t (flL f t u i j (nI (n + 1)) (q - 1) 0) i + 1) (nxW u (flL f t u i j (nI (n + 1)) (q - 1) 0) j + 1) (acc ++ [flL f t u i j (nI (n + 1)) (q - 1) 0])
theorem flL_le (f : Nat → Int32) (t u : List Nat) (i j : Nat) (len : Int32) : ∀ n l, flL f t u i j len n l ≤ l + n
  | 0, l => Nat.le_refl _
  | n + 1, l => by
    rw [flL]
    split
    · omega
    · have := flL_le f t u i j len n (l + 1)
      omega
theorem p_fl_in {w : Wd} {f : Nat → Int32} {a b : Nat} {t u : List Nat} (h : pH w f a b t u) {r : Option Value} {w' : Wd} {q : Nat} (hq : 2 ≤ q ∧ q ≤ 4) {i j : Nat} (hi : i < 2 ^ 20) (hj : j < 2 ^ 20) (len : Int32) : ∀ (n l : Nat), l + n = q - 1 → EW mX2_firstLongest none 70 [.ref 22, .ref a, .ref b, .int (nI q), .int (nI i), .int (nI j), .int len, .int (nI (flL f t u i j len n l))] [] w r w' → EW mX2_firstLongest none 29 [.ref 22, .ref a, .ref b, .int (nI q), .int (nI i), .int (nI j), .int len, .int (nI l)] [] w r w' := by
  have b1 := h.2.2.2.2.1.1
  have b2 := h.2.2.2.2.2.1
  have hq1 : nI q - 1 = nI (q - 1) := pk_sub (b := 1) (by omega)
  intro n
  induction n with
  | zero =>
    intro l hl K
    refine e_iload dX2_firstLongest_29 rfl (pn 31 rfl ?_)
    refine e_iload_n dX2_firstLongest_31 rfl (pn 32 rfl ?_)
    refine e_ic (1) dX2_firstLongest_32 (by decide) (pn 33 rfl ?_)
    refine e_isub dX2_firstLongest_33 (pn 34 rfl ?_)
    rw [hq1]
    refine e_icmp_ge 70 dX2_firstLongest_34 (by decide) (fun c34 => ?_) (fun c34 => pn 37 rfl ?_)
    · exact K
    · exact absurd (nI_le (by omega) (by omega)) c34
  | succ n ih =>
    intro l hl K
    refine e_iload dX2_firstLongest_29 rfl (pn 31 rfl ?_)
    refine e_iload_n dX2_firstLongest_31 rfl (pn 32 rfl ?_)
    refine e_ic (1) dX2_firstLongest_32 (by decide) (pn 33 rfl ?_)
    refine e_isub dX2_firstLongest_33 (pn 34 rfl ?_)
    rw [hq1]
    refine e_icmp_ge 70 dX2_firstLongest_34 (by decide) (fun c34 => ?_) (fun c34 => pn 37 rfl ?_)
    · exact absurd c34 (nI_ge (by omega) (by omega))
    · have n1 := nxW_le t l i
      have n2 := nxW_le u l j
      refine e_aload_n dX2_firstLongest_37 rfl (pn 38 rfl ?_)
      refine e_aload_n dX2_firstLongest_38 rfl (pn 39 rfl ?_)
      refine e_aload_n dX2_firstLongest_39 rfl (pn 40 rfl ?_)
      refine e_iload dX2_firstLongest_40 rfl (pn 42 rfl ?_)
      refine e_iload dX2_firstLongest_42 rfl (pn 44 rfl ?_)
      refine c_V1 dX2_firstLongest_44 ml_X2_50 mv_X4_next (by decide) (w_next h.2.2.2.2.1 h.2.2.1 (l := l) (p := i) (by omega) (by omega)) h.2.2.1 rfl rfl (Nat.le_of_ble_eq_true rfl) (pn 47 rfl ?_)
      refine e_aload_n dX2_firstLongest_47 rfl (pn 48 rfl ?_)
      refine e_aload_n dX2_firstLongest_48 rfl (pn 49 rfl ?_)
      refine e_iload dX2_firstLongest_49 rfl (pn 51 rfl ?_)
      refine e_iload dX2_firstLongest_51 rfl (pn 53 rfl ?_)
      refine c_V1 dX2_firstLongest_53 ml_X2_50 mv_X4_next (by decide) (w_next h.2.2.2.2.2 h.2.2.2.1 (l := l) (p := j) (by omega) (by omega)) h.2.2.2.1 rfl rfl (Nat.le_of_ble_eq_true rfl) (pn 56 rfl ?_)
      refine e_iload dX2_firstLongest_56 rfl (pn 58 rfl ?_)
      refine c_V1 dX2_firstLongest_58 ml_X2_53 mv_X2_goesOn (by decide) (p_go h (by omega) (by omega) len) h.1 rfl rfl (Nat.le_of_ble_eq_true rfl) (pn 61 rfl ?_)
      rw [flL] at K
      by_cases hg : gsW f t u (nxW t l i) (nxW u l j) len
      · rw [if_pos hg] at K ⊢
        refine e_if_ne 70 dX2_firstLongest_61 (by decide) (fun c61 => ?_) (fun c61 => pn 64 rfl ?_)
        · exact K
        · exact absurd c61 (by decide)
      · rw [if_neg hg] at K ⊢
        refine e_if_ne 70 dX2_firstLongest_61 (by decide) (fun c61 => ?_) (fun c61 => pn 64 rfl ?_)
        · exact absurd rfl c61
        · refine s_inc [_, _, _, _, _, _, _, _] (1) dX2_firstLongest_64 (by decide) rfl (Nat.le_of_ble_eq_true rfl) rfl (pn 67 rfl ?_)
          refine e_goto 29 dX2_firstLongest_67 (by decide) ?_
          rw [nI_1]
          exact ih (l + 1) (by omega) K
theorem okW_snoc {u : List Nat} (h : okW u) (hl : u.length < 24) {l : Nat} (h4 : l < 4) : okW (u ++ [l]) :=
  ⟨by simp; omega, fun a ha => by
    rcases List.mem_append.mp ha with h9 | h9
    · exact h.2 a h9
    · rw [List.mem_singleton.mp h9]; exact h4⟩
theorem p_fl_out {w : Wd} {f : Nat → Int32} {a b : Nat} {t u : List Nat} (h : pH w f a b t u) (ea : 25 ≠ a) (eb : 25 ≠ b) {x0 : Cel} (h25 : w[25]? = some x0) {q : Nat} (hq : 2 ≤ q ∧ q ≤ 4) : ∀ (n i j : Nat) (acc : List Nat), i + n ≤ 100 → j + n ≤ 100 → okW acc → acc.length + n ≤ 24 → EW mX2_firstLongest none 21 [.ref 22, .ref a, .ref b, .int (nI q), .int (nI i), .int (nI j), .int (nI n), dmy] [] (w.set 25 (rowW acc)) (some (.ref 25)) (w.set 25 (rowW (flO f t u q n i j acc))) := by
  have b1 := h.2.2.2.2.1.1
  have b2 := h.2.2.2.2.2.1
  intro n
  induction n with
  | zero =>
    intro i j acc hi hj hok hl
    have hp := h.up25 ea eb (rowW acc)
    refine e_iload dX2_firstLongest_21 rfl (pn 23 rfl ?_)
    refine e_if_le 109 dX2_firstLongest_23 (by decide) (fun c23 => ?_) (fun c23 => pn 26 rfl ?_)
    · refine e_aload_n dX2_firstLongest_109 rfl (pn 110 rfl ?_)
      refine e_get dX2_firstLongest_110 fl_X2_22 hp.1 rfl (pn 113 rfl ?_)
      exact e_aret dX2_firstLongest_113 rfl rfl rfl
    · exact absurd (by decide) c23
  | succ n ih =>
    intro i j acc hi hj hok hl
    have hp := h.up25 ea eb (rowW acc)
    have fl := flL_le f t u i j (nI (n + 1)) (q - 1) 0
    refine e_iload dX2_firstLongest_21 rfl (pn 23 rfl ?_)
    refine e_if_le 109 dX2_firstLongest_23 (by decide) (fun c23 => ?_) (fun c23 => pn 26 rfl ?_)
    · exact absurd c23 (nI_nle (by omega) (by omega))
    · refine e_ic (0) dX2_firstLongest_26 (by decide) (pn 27 rfl ?_)
      refine s_i [_, _, _, _, _, _, _, _] dX2_firstLongest_27 (Nat.le_of_ble_eq_true rfl) rfl (pn 29 rfl ?_)
      refine p_fl_in hp hq (i := i) (j := j) (by omega) (by omega) (nI (n + 1)) (q - 1) 0 (by omega) ?_
      generalize hL : flL f t u i j (nI (n + 1)) (q - 1) 0 = l at *
      have n1 := nxW_le t l i
      have n2 := nxW_le u l j
      have hp2 := h.up25 ea eb (rowW (acc ++ [l]))
      have g25 : (w.set 25 (rowW acc))[25]? = some (rowW acc) := gse h25
      refine e_aload_n dX2_firstLongest_70 rfl (pn 71 rfl ?_)
      refine e_get dX2_firstLongest_71 fl_X2_22 hp.1 rfl (pn 74 rfl ?_)
      refine e_iload dX2_firstLongest_74 rfl (pn 76 rfl ?_)
      refine c_V0 dX2_firstLongest_76 ml_X2_57 mv_X4_append (by decide) (w_append hok g25 (l := l) (by omega)) g25 rfl rfl (Nat.le_of_ble_eq_true rfl) (pn 79 rfl ?_)
      rw [List.set_set]
      refine e_aload_n dX2_firstLongest_79 rfl (pn 80 rfl ?_)
      refine e_iload dX2_firstLongest_80 rfl (pn 82 rfl ?_)
      refine e_iload dX2_firstLongest_82 rfl (pn 84 rfl ?_)
      refine c_V1 dX2_firstLongest_84 ml_X2_50 mv_X4_next (by decide) (w_next hp2.2.2.2.2.1 hp2.2.2.1 (l := l) (p := i) (by omega) (by omega)) hp2.2.2.1 rfl rfl (Nat.le_of_ble_eq_true rfl) (pn 87 rfl ?_)
      refine e_ic (1) dX2_firstLongest_87 (by decide) (pn 88 rfl ?_)
      refine e_iadd dX2_firstLongest_88 (pn 89 rfl ?_)
      refine s_i [_, _, _, _, _, _, _, _] dX2_firstLongest_89 (Nat.le_of_ble_eq_true rfl) rfl (pn 91 rfl ?_)
      refine e_aload_n dX2_firstLongest_91 rfl (pn 92 rfl ?_)
      refine e_iload dX2_firstLongest_92 rfl (pn 94 rfl ?_)
      refine e_iload dX2_firstLongest_94 rfl (pn 96 rfl ?_)
      refine c_V1 dX2_firstLongest_96 ml_X2_50 mv_X4_next (by decide) (w_next hp2.2.2.2.2.2 hp2.2.2.2.1 (l := l) (p := j) (by omega) (by omega)) hp2.2.2.2.1 rfl rfl (Nat.le_of_ble_eq_true rfl) (pn 99 rfl ?_)
      refine e_ic (1) dX2_firstLongest_99 (by decide) (pn 100 rfl ?_)
      refine e_iadd dX2_firstLongest_100 (pn 101 rfl ?_)
      refine s_i [_, _, _, _, _, _, _, _] dX2_firstLongest_101 (Nat.le_of_ble_eq_true rfl) rfl (pn 103 rfl ?_)
      refine s_inc [_, _, _, _, _, _, _, _] (-1) dX2_firstLongest_103 (by decide) rfl (Nat.le_of_ble_eq_true rfl) rfl (pn 106 rfl ?_)
      refine e_goto 21 dX2_firstLongest_106 (by decide) ?_
      rw [nI_1, nI_1, pk_m1, flO, hL]
      refine e_dr [_, _, _, _, _, _, _, _] 7 rfl ?_
      exact ih _ _ _ (by omega) (by omega) (okW_snoc hok (by omega) (by omega)) (by simp; omega)
theorem p_fl {w : Wd} {f : Nat → Int32} {a b : Nat} {t u : List Nat} (h : pH w f a b t u) (ea : 25 ≠ a) (eb : 25 ≠ b) {v : List Nat} (h25 : w[25]? = some (rowW v)) {q : Nat} (hq : 2 ≤ q ∧ q ≤ 4) {n : Nat} (hn : f 0 = nI n) (hn24 : n ≤ 24) : CW mX2_firstLongest [.ref 22, .ref a, .ref b, .int (nI q)] w (some (.ref 25)) (w.set 25 (rowW (flO f t u q n 0 0 []))) := by
  have hp := h.up25 ea eb (rowW [])
  refine cw_of (M := mX2_firstLongest) fx_X2_firstLongest (lv := [.ref 22, .ref a, .ref b, .int (nI q), dmy, dmy, dmy, dmy]) rfl (Nat.le_of_ble_eq_true rfl) ?_
  refine e_aload_n dX2_firstLongest_0 rfl (pn 1 rfl ?_)
  refine e_get dX2_firstLongest_1 fl_X2_22 h.1 rfl (pn 4 rfl ?_)
  refine c_V0 dX2_firstLongest_4 ml_X2_47 mv_X4_clear (by decide) (w_clear h25) h25 rfl rfl (Nat.le_of_ble_eq_true rfl) (pn 7 rfl ?_)
  refine e_ic (0) dX2_firstLongest_7 (by decide) (pn 8 rfl ?_)
  refine s_i [_, _, _, _, _, _, _, _] dX2_firstLongest_8 (Nat.le_of_ble_eq_true rfl) rfl (pn 10 rfl ?_)
  refine e_ic (0) dX2_firstLongest_10 (by decide) (pn 11 rfl ?_)
  refine s_i [_, _, _, _, _, _, _, _] dX2_firstLongest_11 (Nat.le_of_ble_eq_true rfl) rfl (pn 13 rfl ?_)
  refine e_aload_n dX2_firstLongest_13 rfl (pn 14 rfl ?_)
  refine e_get dX2_firstLongest_14 fl_X2_11 hp.1 rfl (pn 17 rfl ?_)
  refine e_ic (0) dX2_firstLongest_17 (by decide) (pn 18 rfl ?_)
  refine e_iald (0) dX2_firstLongest_18 hp.2.1 rfl (by decide) (by omega) (pn 19 rfl ?_)
  refine s_i [_, _, _, _, _, _, _, _] dX2_firstLongest_19 (Nat.le_of_ble_eq_true rfl) rfl (pn 21 rfl ?_)
  rw [hn]
  exact p_fl_out h ea eb h25 hq n 0 0 [] (by omega) (by omega) ⟨by simp, fun a ha => by cases ha⟩ (by simpa using hn24)
