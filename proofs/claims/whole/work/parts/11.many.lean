/-! Pair.howManyFrom, howManyLongest -/
def pJ (w : Wd) (f : Nat → Int32) (g : Nat → Int64) (a b : Nat) (t u : List Nat) : Prop := pH w f a b t u ∧ w[24]? = some (aJ 625 g)
theorem pJ.up {w : Wd} {f : Nat → Int32} {g : Nat → Int64} {a b : Nat} {t u : List Nat} (h : pJ w f g a b t u) (g2 : Nat → Int64) : pJ (w.set 24 (aJ 625 g2)) f g2 a b t u := by
  obtain ⟨⟨h1, h2, h3, h4, h5, h6⟩, h7⟩ := h
  have ea : 24 ≠ a := fun e => by subst e; rw [h7] at h3; cases h3
  have eb : 24 ≠ b := fun e => by subst e; rw [h7] at h4; cases h4
  exact ⟨⟨gne (by decide) h1, gne (by decide) h2, gne ea h3, gne eb h4, h5, h6⟩, gse h7⟩
def hmS (f : Nat → Int32) (g : Nat → Int64) (t u : List Nat) (i j : Nat) (len : Int32) : Nat → Int64
  | 0 => 0
  | l + 1 => if gsW f t u (nxW t l i) (nxW u l j) len then hmS f g t u i j len l + g ((nxW t l i + 1) * 25 + (nxW u l j + 1)) else hmS f g t u i j len l
def hmV (f : Nat → Int32) (g : Nat → Int64) (q : Nat) (t u : List Nat) (i j : Nat) : Int64 := if f (i * 25 + j) = 0 then 1 else hmS f g t u i j (f (i * 25 + j)) q
theorem p_hS {w : Wd} {f : Nat → Int32} {g : Nat → Int64} {a b : Nat} {t u : List Nat} (h : pJ w f g a b t u) {q : Nat} (hq : 2 ≤ q ∧ q ≤ 4) {i j : Nat} (hi : i ≤ t.length) (hj : j ≤ u.length) (len : Int32) : ∀ (n l : Nat), l + n = q → EW mX2_howManyFrom none 26 [.ref 22, .ref a, .int (nI i), .ref b, .int (nI j), .int (nI q), .int len, .long (hmS f g t u i j len l), dmy, .int (nI l), dmy, dmy] [] w (some (.long (hmS f g t u i j len q))) w := by
  obtain ⟨hp, h7⟩ := h
  have b1 := hp.2.2.2.2.1.1
  have b2 := hp.2.2.2.2.2.1
  intro n
  induction n with
  | zero =>
    intro l hl
    have e : l = q := by omega
    subst e
    refine e_iload dX2_howManyFrom_26 rfl (pn 28 rfl ?_)
    refine e_iload dX2_howManyFrom_28 rfl (pn 30 rfl ?_)
    refine e_icmp_ge 94 dX2_howManyFrom_30 (by decide) (fun c30 => ?_) (fun c30 => pn 33 rfl ?_)
    · refine e_lload dX2_howManyFrom_94 rfl (pn 96 rfl ?_)
      exact e_lret dX2_howManyFrom_96 rfl rfl rfl
    · exact absurd (nI_le (Nat.le_refl _) (by omega)) c30
  | succ n ih =>
    intro l hl
    have n1 := nxW_le t l i
    have n2 := nxW_le u l j
    refine e_iload dX2_howManyFrom_26 rfl (pn 28 rfl ?_)
    refine e_iload dX2_howManyFrom_28 rfl (pn 30 rfl ?_)
    refine e_icmp_ge 94 dX2_howManyFrom_30 (by decide) (fun c30 => ?_) (fun c30 => pn 33 rfl ?_)
    · exact absurd c30 (nI_ge (by omega) (by omega))
    · refine e_aload_n dX2_howManyFrom_33 rfl (pn 34 rfl ?_)
      refine e_iload dX2_howManyFrom_34 rfl (pn 36 rfl ?_)
      refine e_iload_n dX2_howManyFrom_36 rfl (pn 37 rfl ?_)
      refine c_V1 dX2_howManyFrom_37 ml_X2_50 mv_X4_next (by decide) (w_next hp.2.2.2.2.1 hp.2.2.1 (l := l) (p := i) (by omega) (by omega)) hp.2.2.1 rfl rfl (Nat.le_of_ble_eq_true rfl) (pn 40 rfl ?_)
      refine s_i [_, _, _, _, _, _, _, _, _, _, _, _] dX2_howManyFrom_40 (Nat.le_of_ble_eq_true rfl) rfl (pn 42 rfl ?_)
      refine e_aload_n dX2_howManyFrom_42 rfl (pn 43 rfl ?_)
      refine e_iload dX2_howManyFrom_43 rfl (pn 45 rfl ?_)
      refine e_iload dX2_howManyFrom_45 rfl (pn 47 rfl ?_)
      refine c_V1 dX2_howManyFrom_47 ml_X2_50 mv_X4_next (by decide) (w_next hp.2.2.2.2.2 hp.2.2.2.1 (l := l) (p := j) (by omega) (by omega)) hp.2.2.2.1 rfl rfl (Nat.le_of_ble_eq_true rfl) (pn 50 rfl ?_)
      refine s_i [_, _, _, _, _, _, _, _, _, _, _, _] dX2_howManyFrom_50 (Nat.le_of_ble_eq_true rfl) rfl (pn 52 rfl ?_)
      refine e_aload_n dX2_howManyFrom_52 rfl (pn 53 rfl ?_)
      refine e_aload_n dX2_howManyFrom_53 rfl (pn 54 rfl ?_)
      refine e_iload dX2_howManyFrom_54 rfl (pn 56 rfl ?_)
      refine e_aload_n dX2_howManyFrom_56 rfl (pn 57 rfl ?_)
      refine e_iload dX2_howManyFrom_57 rfl (pn 59 rfl ?_)
      refine e_iload dX2_howManyFrom_59 rfl (pn 61 rfl ?_)
      refine c_V1 dX2_howManyFrom_61 ml_X2_53 mv_X2_goesOn (by decide) (p_go hp (by omega) (by omega) len) hp.1 rfl rfl (Nat.le_of_ble_eq_true rfl) (pn 64 rfl ?_)
      have K := ih (l + 1) (by omega)
      rw [hmS] at K
      by_cases hg : gsW f t u (nxW t l i) (nxW u l j) len
      · rw [if_pos hg] at K ⊢
        have g1 := hg.1
        have g2 := hg.2.1
        refine e_if_eq 88 dX2_howManyFrom_64 (by decide) (fun c64 => ?_) (fun c64 => pn 67 rfl ?_)
        · exact absurd c64 (by decide)
        · refine e_lload dX2_howManyFrom_67 rfl (pn 69 rfl ?_)
          refine e_aload_n dX2_howManyFrom_69 rfl (pn 70 rfl ?_)
          refine e_get dX2_howManyFrom_70 fl_X2_15 hp.1 rfl (pn 73 rfl ?_)
          refine e_iload dX2_howManyFrom_73 rfl (pn 75 rfl ?_)
          refine e_ic (1) dX2_howManyFrom_75 (by decide) (pn 76 rfl ?_)
          refine e_iadd dX2_howManyFrom_76 (pn 77 rfl ?_)
          refine e_iload dX2_howManyFrom_77 rfl (pn 79 rfl ?_)
          refine e_ic (1) dX2_howManyFrom_79 (by decide) (pn 80 rfl ?_)
          refine e_iadd dX2_howManyFrom_80 (pn 81 rfl ?_)
          refine c_S1 dX2_howManyFrom_81 ml_X2_30 ms_X2_cell (by decide) (p_cell w _ _) rfl rfl (Nat.le_of_ble_eq_true rfl) (pn 84 rfl ?_)
          refine e_lald ((nxW t l i + 1) * 25 + (nxW u l j + 1)) dX2_howManyFrom_84 h7 (by rw [nI_1, nI_1, cx]) (by omega) (by omega) (pn 85 rfl ?_)
          refine e_ladd dX2_howManyFrom_85 (pn 86 rfl ?_)
          refine s_l [_, _, _, _, _, _, _, _, _, _, _, _] dX2_howManyFrom_86 (Nat.le_of_ble_eq_true rfl) rfl (pn 88 rfl ?_)
          refine s_inc [_, _, _, _, _, _, _, _, _, _, _, _] (1) dX2_howManyFrom_88 (by decide) rfl (Nat.le_of_ble_eq_true rfl) rfl (pn 91 rfl ?_)
          refine e_goto 26 dX2_howManyFrom_91 (by decide) ?_
          rw [nI_1]
          refine e_dr [_, _, _, _, _, _, _, _, _, _, _, _] 10 rfl (e_dr [_, _, _, _, _, _, _, _, _, _, _, _] 11 rfl ?_)
          exact K
      · rw [if_neg hg] at K ⊢
        refine e_if_eq 88 dX2_howManyFrom_64 (by decide) (fun c64 => ?_) (fun c64 => pn 67 rfl ?_)
        · refine s_inc [_, _, _, _, _, _, _, _, _, _, _, _] (1) dX2_howManyFrom_88 (by decide) rfl (Nat.le_of_ble_eq_true rfl) rfl (pn 91 rfl ?_)
          refine e_goto 26 dX2_howManyFrom_91 (by decide) ?_
          rw [nI_1]
          refine e_dr [_, _, _, _, _, _, _, _, _, _, _, _] 10 rfl (e_dr [_, _, _, _, _, _, _, _, _, _, _, _] 11 rfl ?_)
          exact K
        · exact absurd rfl c64
theorem p_hF {w : Wd} {f : Nat → Int32} {g : Nat → Int64} {a b : Nat} {t u : List Nat} (h : pJ w f g a b t u) {q : Nat} (hq : 2 ≤ q ∧ q ≤ 4) {i j : Nat} (hi : i ≤ t.length) (hj : j ≤ u.length) : CW mX2_howManyFrom [.ref 22, .ref a, .int (nI i), .ref b, .int (nI j), .int (nI q)] w (some (.long (hmV f g q t u i j))) w := by
  have b1 := h.1.2.2.2.2.1.1
  have b2 := h.1.2.2.2.2.2.1
  refine cw_of (M := mX2_howManyFrom) fx_X2_howManyFrom (lv := [.ref 22, .ref a, .int (nI i), .ref b, .int (nI j), .int (nI q), dmy, dmy, dmy, dmy, dmy, dmy]) rfl (Nat.le_of_ble_eq_true rfl) ?_
  refine e_aload_n dX2_howManyFrom_0 rfl (pn 1 rfl ?_)
  refine e_get dX2_howManyFrom_1 fl_X2_11 h.1.1 rfl (pn 4 rfl ?_)
  refine e_iload_n dX2_howManyFrom_4 rfl (pn 5 rfl ?_)
  refine e_iload dX2_howManyFrom_5 rfl (pn 7 rfl ?_)
  refine c_S1 dX2_howManyFrom_7 ml_X2_30 ms_X2_cell (by decide) (p_cell w _ _) rfl rfl (Nat.le_of_ble_eq_true rfl) (pn 10 rfl ?_)
  refine e_iald (i * 25 + j) dX2_howManyFrom_10 h.1.2.1 (cx i j) (by omega) (by omega) (pn 11 rfl ?_)
  refine s_i [_, _, _, _, _, _, _, _, _, _, _, _] dX2_howManyFrom_11 (Nat.le_of_ble_eq_true rfl) rfl (pn 13 rfl ?_)
  refine e_iload dX2_howManyFrom_13 rfl (pn 15 rfl ?_)
  refine e_if_ne 20 dX2_howManyFrom_15 (by decide) (fun c15 => ?_) (fun c15 => pn 18 rfl ?_)
  · refine e_lc (0) dX2_howManyFrom_20 (by decide) (pn 21 rfl ?_)
    refine s_l [_, _, _, _, _, _, _, _, _, _, _, _] dX2_howManyFrom_21 (Nat.le_of_ble_eq_true rfl) rfl (pn 23 rfl ?_)
    refine e_ic (0) dX2_howManyFrom_23 (by decide) (pn 24 rfl ?_)
    refine s_i [_, _, _, _, _, _, _, _, _, _, _, _] dX2_howManyFrom_24 (Nat.le_of_ble_eq_true rfl) rfl (pn 26 rfl ?_)
    rw [hmV, if_neg c15]
    exact p_hS h hq hi hj _ q 0 (by omega)
  · refine e_lc (1) dX2_howManyFrom_18 (by decide) (pn 19 rfl ?_)
    exact e_lret dX2_howManyFrom_19 rfl (by rw [hmV, if_pos c15]) rfl
def hmI (f : Nat → Int32) (q : Nat) (t u : List Nat) (i : Nat) : Nat → (Nat → Int64) → Nat → Int64
  | 0, g => g
  | k + 1, g => hmI f q t u i k (va_up g (i * 25 + k) (hmV f g q t u i k))
def hmO (f : Nat → Int32) (q : Nat) (t u : List Nat) : Nat → (Nat → Int64) → Nat → Int64
  | 0, g => g
  | k + 1, g => hmO f q t u k (hmI f q t u k (u.length + 1) g)
theorem p_hm_in {w : Wd} {f : Nat → Int32} {g0 : Nat → Int64} {a b : Nat} {t u : List Nat} (h : pJ w f g0 a b t u) {q : Nat} (hq : 2 ≤ q ∧ q ≤ 4) {r : Option Value} {w' : Wd} (i : Nat) (hi : i ≤ t.length) : ∀ (k : Nat) (g : Nat → Int64), k ≤ u.length + 1 → EW mX2_howManyLongest none 51 [.ref 22, .ref a, .ref b, .int (nI q), .int (nI i), dmy] [] (w.set 24 (aJ 625 (hmI f q t u i k g))) r w' → EW mX2_howManyLongest none 17 [.ref 22, .ref a, .ref b, .int (nI q), .int (nI i), .int (nI k + (-1))] [] (w.set 24 (aJ 625 g)) r w' := by
  have b1 := h.1.2.2.2.2.1.1
  have b2 := h.1.2.2.2.2.2.1
  intro k
  induction k with
  | zero =>
    intro g hk K
    refine e_iload dX2_howManyLongest_17 rfl (pn 19 rfl ?_)
    refine e_if_lt 51 dX2_howManyLongest_19 (by decide) (fun c19 => ?_) (fun c19 => pn 22 rfl ?_)
    · exact e_dr [_, _, _, _, _, _] 5 rfl K
    · exact absurd ((m1_lt 0 (by decide)).mpr rfl) c19
  | succ k ih =>
    intro g hk K
    have hp := h.up g
    simp only [pk_m1]
    refine e_iload dX2_howManyLongest_17 rfl (pn 19 rfl ?_)
    refine e_if_lt 51 dX2_howManyLongest_19 (by decide) (fun c19 => ?_) (fun c19 => pn 22 rfl ?_)
    · exact absurd c19 (nI_pos (by omega))
    · refine e_aload_n dX2_howManyLongest_22 rfl (pn 23 rfl ?_)
      refine e_get dX2_howManyLongest_23 fl_X2_15 hp.1.1 rfl (pn 26 rfl ?_)
      refine e_iload dX2_howManyLongest_26 rfl (pn 28 rfl ?_)
      refine e_iload dX2_howManyLongest_28 rfl (pn 30 rfl ?_)
      refine c_S1 dX2_howManyLongest_30 ml_X2_30 ms_X2_cell (by decide) (p_cell _ _ _) rfl rfl (Nat.le_of_ble_eq_true rfl) (pn 33 rfl ?_)
      refine e_aload_n dX2_howManyLongest_33 rfl (pn 34 rfl ?_)
      refine e_aload_n dX2_howManyLongest_34 rfl (pn 35 rfl ?_)
      refine e_iload dX2_howManyLongest_35 rfl (pn 37 rfl ?_)
      refine e_aload_n dX2_howManyLongest_37 rfl (pn 38 rfl ?_)
      refine e_iload dX2_howManyLongest_38 rfl (pn 40 rfl ?_)
      refine e_iload_n dX2_howManyLongest_40 rfl (pn 41 rfl ?_)
      refine c_V1 dX2_howManyLongest_41 ml_X2_61 mv_X2_howManyFrom (by decide) (p_hF hp hq hi (by omega)) hp.1.1 rfl rfl (Nat.le_of_ble_eq_true rfl) (pn 44 rfl ?_)
      refine e_last (i * 25 + k) dX2_howManyLongest_44 hp.2 (cx i k) (by omega) (by omega) (pn 45 rfl ?_)
      rw [List.set_set]
      refine s_inc [_, _, _, _, _, _] (-1) dX2_howManyLongest_45 (by decide) rfl (Nat.le_of_ble_eq_true rfl) rfl (pn 48 rfl ?_)
      refine e_goto 17 dX2_howManyLongest_48 (by decide) ?_
      exact ih _ (by omega) K
theorem p_hm_out {w : Wd} {f : Nat → Int32} {g0 : Nat → Int64} {a b : Nat} {t u : List Nat} (h : pJ w f g0 a b t u) {q : Nat} (hq : 2 ≤ q ∧ q ≤ 4) {r : Option Value} {w' : Wd} : ∀ (k : Nat) (g : Nat → Int64), k ≤ t.length + 1 → EW mX2_howManyLongest none 57 [.ref 22, .ref a, .ref b, .int (nI q), dmy, dmy] [] (w.set 24 (aJ 625 (hmO f q t u k g))) r w' → EW mX2_howManyLongest none 6 [.ref 22, .ref a, .ref b, .int (nI q), .int (nI k + (-1)), dmy] [] (w.set 24 (aJ 625 g)) r w' := by
  have b1 := h.1.2.2.2.2.1.1
  have b2 := h.1.2.2.2.2.2.1
  intro k
  induction k with
  | zero =>
    intro g hk K
    refine e_iload dX2_howManyLongest_6 rfl (pn 8 rfl ?_)
    refine e_if_lt 57 dX2_howManyLongest_8 (by decide) (fun c8 => ?_) (fun c8 => pn 11 rfl ?_)
    · exact e_dr [_, _, _, _, _, _] 4 rfl K
    · exact absurd ((m1_lt 0 (by decide)).mpr rfl) c8
  | succ k ih =>
    intro g hk K
    have hp := h.up g
    simp only [pk_m1]
    refine e_iload dX2_howManyLongest_6 rfl (pn 8 rfl ?_)
    refine e_if_lt 57 dX2_howManyLongest_8 (by decide) (fun c8 => ?_) (fun c8 => pn 11 rfl ?_)
    · exact absurd c8 (nI_pos (by omega))
    · refine e_aload_n dX2_howManyLongest_11 rfl (pn 12 rfl ?_)
      refine e_get dX2_howManyLongest_12 fl_X2_26 hp.1.2.2.2.1 rfl (pn 15 rfl ?_)
      refine s_i [_, _, _, _, _, _] dX2_howManyLongest_15 (Nat.le_of_ble_eq_true rfl) rfl (pn 17 rfl ?_)
      rw [← pk_m1 u.length]
      refine p_hm_in h hq k (by omega) (u.length + 1) g (Nat.le_refl _) ?_
      refine s_inc [_, _, _, _, _, _] (-1) dX2_howManyLongest_51 (by decide) rfl (Nat.le_of_ble_eq_true rfl) rfl (pn 54 rfl ?_)
      refine e_goto 6 dX2_howManyLongest_54 (by decide) ?_
      exact ih _ (by omega) K
theorem p_hm {w : Wd} {f : Nat → Int32} {g : Nat → Int64} {a b : Nat} {t u : List Nat} (h : pJ w f g a b t u) {q : Nat} (hq : 2 ≤ q ∧ q ≤ 4) : CW mX2_howManyLongest [.ref 22, .ref a, .ref b, .int (nI q)] w (some (.long (hmO f q t u (t.length + 1) g 0))) (w.set 24 (aJ 625 (hmO f q t u (t.length + 1) g))) := by
  refine cw_of (M := mX2_howManyLongest) fx_X2_howManyLongest (lv := [.ref 22, .ref a, .ref b, .int (nI q), dmy, dmy]) rfl (Nat.le_of_ble_eq_true rfl) ?_
  refine e_aload_n dX2_howManyLongest_0 rfl (pn 1 rfl ?_)
  refine e_get dX2_howManyLongest_1 fl_X2_26 h.1.2.2.1 rfl (pn 4 rfl ?_)
  refine s_i [_, _, _, _, _, _] dX2_howManyLongest_4 (Nat.le_of_ble_eq_true rfl) rfl (pn 6 rfl ?_)
  refine pw (set_id h.2).symm ?_
  rw [← pk_m1 t.length]
  refine p_hm_out h hq (t.length + 1) g (Nat.le_refl _) ?_
  refine e_aload_n dX2_howManyLongest_57 rfl (pn 58 rfl ?_)
  refine e_get dX2_howManyLongest_58 fl_X2_15 (h.up _).1.1 rfl (pn 61 rfl ?_)
  refine e_ic (0) dX2_howManyLongest_61 (by decide) (pn 62 rfl ?_)
  refine e_lald (0) dX2_howManyLongest_62 (h.up _).2 rfl (by decide) (by omega) (pn 63 rfl ?_)
  exact e_lret dX2_howManyLongest_63 rfl rfl rfl
