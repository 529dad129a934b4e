/-! LostLetters$Code: this at 15, tried at 16, found at 17, ways at wr -/
abbrev cdF (wr : Nat) (q n m a b lm : Nat) (sz : Int32) : Cel := oB 0 [.ref 16, .ref 17, .ref wr, .int (nI q), .int (nI n), .int (nI m), .int (nI a), .int (nI b), .int (nI lm), .int sz]
def cP (q n m a b lm : Nat) : Prop := (2 ≤ q ∧ q ≤ 4) ∧ (1 ≤ n ∧ n ≤ 16) ∧ (1 ≤ m ∧ m ≤ 64) ∧ a < m ∧ b < lm ∧ (1 ≤ lm ∧ lm ≤ 4)
def swN (q m s p last l : Nat) : Nat := if q = 2 then (s + p * l) % m else if 1 < p ∧ last ≤ l then (s + p - 1) % m else s
theorem swN_lt {q m s p last l : Nat} (hm : 0 < m) (hs : s < m) : swN q m s p last l < m := by
  unfold swN
  split
  · exact Nat.mod_lt _ hm
  · split
    · exact Nat.mod_lt _ hm
    · exact hs
theorem d_sumWith {w : Wd} {wr q n m a b lm : Nat} {sz : Int32} (h : w[15]? = some (cdF wr q n m a b lm sz)) (hq : q ≤ 4) (hm : 1 ≤ m ∧ m ≤ 64) {s p last l : Nat} (hs : s < m) (hp : p ≤ 30) (hp1 : 1 ≤ p) (hla : last < 4) (hl : l < 4) : CW mX0_sumWith [.ref 15, .int (nI s), .int (nI p), .int (nI last), .int (nI l)] w (some (.int (nI (swN q m s p last l)))) w := by
  have pl : p * l ≤ 30 * 4 := Nat.mul_le_mul hp (by omega)
  refine cw_of (M := mX0_sumWith) fx_X0_sumWith (lv := [.ref 15, .int (nI s), .int (nI p), .int (nI last), .int (nI l)]) rfl (Nat.le_of_ble_eq_true rfl) ?_
  refine e_aload_n dX0_sumWith_0 rfl (pn 1 rfl ?_)
  refine e_get dX0_sumWith_1 fl_X0_25 h rfl (pn 4 rfl ?_)
  refine e_ic (2) dX0_sumWith_4 (by decide) (pn 5 rfl ?_)
  refine e_icmp_ne 20 dX0_sumWith_5 (by decide) (fun c5 => ?_) (fun c5 => pn 8 rfl ?_)
  · have hc : ¬ q = 2 := fun e => c5 (by rw [e]; rfl)
    refine e_iload_n dX0_sumWith_20 rfl (pn 21 rfl ?_)
    refine e_ic (1) dX0_sumWith_21 (by decide) (pn 22 rfl ?_)
    refine e_icmp_le 44 dX0_sumWith_22 (by decide) (fun c22 => ?_) (fun c22 => pn 25 rfl ?_)
    · have hc2 : ¬ 1 < p := fun e => (nI_ge (a := 1) e (by omega)) c22
      refine e_iload_n dX0_sumWith_44 rfl (pn 45 rfl ?_)
      exact e_iret dX0_sumWith_45 rfl (by rw [swN, if_neg hc, if_neg (fun e => hc2 e.1)]) rfl
    · have hc2 : 1 < p := Nat.lt_of_not_le (fun e => c22 (nI_le (b := 1) e (by omega)))
      refine e_iload dX0_sumWith_25 rfl (pn 27 rfl ?_)
      refine e_iload_n dX0_sumWith_27 rfl (pn 28 rfl ?_)
      refine e_icmp_lt 44 dX0_sumWith_28 (by decide) (fun c28 => ?_) (fun c28 => pn 31 rfl ?_)
      · have hc3 : ¬ last ≤ l := fun e => nI_nlt e (by omega) c28
        refine e_iload_n dX0_sumWith_44 rfl (pn 45 rfl ?_)
        exact e_iret dX0_sumWith_45 rfl (by rw [swN, if_neg hc, if_neg (fun e => hc3 e.2)]) rfl
      · have hc3 : last ≤ l := Nat.le_of_not_lt (fun e => c28 (nI_lt e (by omega)))
        refine e_iload_n dX0_sumWith_31 rfl (pn 32 rfl ?_)
        refine e_iload_n dX0_sumWith_32 rfl (pn 33 rfl ?_)
        refine e_iadd dX0_sumWith_33 (pn 34 rfl ?_)
        refine e_ic (1) dX0_sumWith_34 (by decide) (pn 35 rfl ?_)
        refine e_isub dX0_sumWith_35 (pn 36 rfl ?_)
        refine e_aload_n dX0_sumWith_36 rfl (pn 37 rfl ?_)
        refine e_get dX0_sumWith_37 fl_X0_29 h rfl (pn 40 rfl ?_)
        refine e_irem dX0_sumWith_40 (nI_ne0 (by omega) (by omega)) (pn 41 rfl ?_)
        refine e_goto 45 dX0_sumWith_41 (by decide) ?_
        exact e_iret dX0_sumWith_45 rfl (by rw [swN, if_neg hc, if_pos ⟨hc2, hc3⟩, nI_add, show nI (s + p) - 1 = nI (s + p - 1) from pk_sub (b := 1) (by omega), pk_rem (by omega) (by omega) (by omega)]) rfl
  · have hc : q = 2 := (nI_eq (b := 2) (by omega) (by omega)).mp c5
    refine e_iload_n dX0_sumWith_8 rfl (pn 9 rfl ?_)
    refine e_iload_n dX0_sumWith_9 rfl (pn 10 rfl ?_)
    refine e_iload dX0_sumWith_10 rfl (pn 12 rfl ?_)
    refine e_imul dX0_sumWith_12 (pn 13 rfl ?_)
    refine e_iadd dX0_sumWith_13 (pn 14 rfl ?_)
    refine e_aload_n dX0_sumWith_14 rfl (pn 15 rfl ?_)
    refine e_get dX0_sumWith_15 fl_X0_29 h rfl (pn 18 rfl ?_)
    refine e_irem dX0_sumWith_18 (nI_ne0 (by omega) (by omega)) (pn 19 rfl ?_)
    exact e_iret dX0_sumWith_19 rfl (by rw [swN, if_pos hc, pk_mul, nI_add, pk_rem (by omega) (by omega) (by omega)]) rfl
def ceN (q m lm p last s c : Nat) : Nat := (((p - 1) * q + last) * m + s) * lm + c
theorem ce_lt {q n m lm p last s c : Nat} (h1 : 1 ≤ p) (h2 : p < n) (h3 : last < q) (h4 : s < m) (h5 : c < lm) : ceN q m lm p last s c < (n - 1) * q * m * lm := by
  have a1 : (p - 1) * q + last < (n - 1) * q := by
    calc (p - 1) * q + last < (p - 1) * q + q := by omega
      _ = (p - 1 + 1) * q := by rw [Nat.add_mul, Nat.one_mul]
      _ ≤ (n - 1) * q := Nat.mul_le_mul_right _ (by omega)
  have a2 : ((p - 1) * q + last) * m + s < (n - 1) * q * m := by
    calc ((p - 1) * q + last) * m + s < ((p - 1) * q + last) * m + m := by omega
      _ = ((p - 1) * q + last + 1) * m := by rw [Nat.add_mul _ 1, Nat.one_mul]
      _ ≤ (n - 1) * q * m := Nat.mul_le_mul_right _ (by omega)
  unfold ceN
  calc (((p - 1) * q + last) * m + s) * lm + c < (((p - 1) * q + last) * m + s) * lm + lm := by omega
    _ = (((p - 1) * q + last) * m + s + 1) * lm := by rw [Nat.add_mul _ 1, Nat.one_mul]
    _ ≤ (n - 1) * q * m * lm := Nat.mul_le_mul_right _ (by omega)
theorem d_cell {w : Wd} {wr q n m a b lm : Nat} {sz : Int32} (h : w[15]? = some (cdF wr q n m a b lm sz)) {p last s c : Nat} (hp : 1 ≤ p) : CW mX0_cell [.ref 15, .int (nI p), .int (nI last), .int (nI s), .int (nI c)] w (some (.int (nI (ceN q m lm p last s c)))) w := by
  refine cw_of (M := mX0_cell) fx_X0_cell (lv := [.ref 15, .int (nI p), .int (nI last), .int (nI s), .int (nI c)]) rfl (Nat.le_of_ble_eq_true rfl) ?_
  refine e_iload_n dX0_cell_0 rfl (pn 1 rfl ?_)
  refine e_ic (1) dX0_cell_1 (by decide) (pn 2 rfl ?_)
  refine e_isub dX0_cell_2 (pn 3 rfl ?_)
  refine e_aload_n dX0_cell_3 rfl (pn 4 rfl ?_)
  refine e_get dX0_cell_4 fl_X0_25 h rfl (pn 7 rfl ?_)
  refine e_imul dX0_cell_7 (pn 8 rfl ?_)
  refine e_iload_n dX0_cell_8 rfl (pn 9 rfl ?_)
  refine e_iadd dX0_cell_9 (pn 10 rfl ?_)
  refine e_aload_n dX0_cell_10 rfl (pn 11 rfl ?_)
  refine e_get dX0_cell_11 fl_X0_29 h rfl (pn 14 rfl ?_)
  refine e_imul dX0_cell_14 (pn 15 rfl ?_)
  refine e_iload_n dX0_cell_15 rfl (pn 16 rfl ?_)
  refine e_iadd dX0_cell_16 (pn 17 rfl ?_)
  refine e_aload_n dX0_cell_17 rfl (pn 18 rfl ?_)
  refine e_get dX0_cell_18 fl_X0_32 h rfl (pn 21 rfl ?_)
  refine e_imul dX0_cell_21 (pn 22 rfl ?_)
  refine e_iload dX0_cell_22 rfl (pn 24 rfl ?_)
  refine e_iadd dX0_cell_24 (pn 25 rfl ?_)
  exact e_iret dX0_cell_25 rfl (by rw [show nI p - 1 = nI (p - 1) from pk_sub (b := 1) hp, pk_mul, nI_add, pk_mul, nI_add, pk_mul, nI_add, ceN]) rfl
/-- this, its table -/
def cH (w : Wd) (wr len : Nat) (f : Nat → Int32) (q n m a b lm : Nat) (sz : Int32) : Prop := w[15]? = some (cdF wr q n m a b lm sz) ∧ w[wr]? = some (aI len f) ∧ (n - 1) * q * m * lm ≤ len ∧ len ≤ 15360 ∧ cP q n m a b lm
def weV (f : Nat → Int32) (q n m a b lm p last s c : Nat) : Int32 := if p < n then f (ceN q m lm p last s c) else if s = a ∧ c = b then 1 else 0
theorem d_we {w : Wd} {wr len q n m a b lm : Nat} {f : Nat → Int32} {sz : Int32} (h : cH w wr len f q n m a b lm sz) {p last s c : Nat} (hp : 1 ≤ p) (hp2 : p ≤ 16) (h3 : last < q) (h4 : s < m) (h5 : c < lm) : CW mX0_waysToEnd [.ref 15, .int (nI p), .int (nI last), .int (nI s), .int (nI c)] w (some (.int (weV f q n m a b lm p last s c))) w := by
  obtain ⟨h1, h2, hl, hl2, hq, hn, hm, ha, hb, hlm⟩ := h
  refine cw_of (M := mX0_waysToEnd) fx_X0_waysToEnd (lv := [.ref 15, .int (nI p), .int (nI last), .int (nI s), .int (nI c)]) rfl (Nat.le_of_ble_eq_true rfl) ?_
  refine e_iload_n dX0_waysToEnd_0 rfl (pn 1 rfl ?_)
  refine e_aload_n dX0_waysToEnd_1 rfl (pn 2 rfl ?_)
  refine e_get dX0_waysToEnd_2 fl_X0_35 h1 rfl (pn 5 rfl ?_)
  refine e_icmp_lt 31 dX0_waysToEnd_5 (by decide) (fun c5 => ?_) (fun c5 => pn 8 rfl ?_)
  · have hc : p < n := Nat.lt_of_not_le (fun e => nI_nlt e (by omega) c5)
    have hx := ce_lt hp hc h3 h4 h5
    refine e_aload_n dX0_waysToEnd_31 rfl (pn 32 rfl ?_)
    refine e_get dX0_waysToEnd_32 fl_X0_21 h1 rfl (pn 35 rfl ?_)
    refine e_aload_n dX0_waysToEnd_35 rfl (pn 36 rfl ?_)
    refine e_iload_n dX0_waysToEnd_36 rfl (pn 37 rfl ?_)
    refine e_iload_n dX0_waysToEnd_37 rfl (pn 38 rfl ?_)
    refine e_iload_n dX0_waysToEnd_38 rfl (pn 39 rfl ?_)
    refine e_iload dX0_waysToEnd_39 rfl (pn 41 rfl ?_)
    refine c_V1 dX0_waysToEnd_41 ml_X0_70 mv_X0_cell (by decide) (d_cell h1 hp) h1 rfl rfl (Nat.le_of_ble_eq_true rfl) (pn 44 rfl ?_)
    refine e_iald (ceN q m lm p last s c) dX0_waysToEnd_44 h2 rfl (by omega) (by omega) (pn 45 rfl ?_)
    exact e_iret dX0_waysToEnd_45 rfl (by rw [weV, if_pos hc]) rfl
  · have hc : ¬ p < n := fun e => c5 (nI_lt e (by omega))
    rw [weV, if_neg hc]
    refine e_iload_n dX0_waysToEnd_8 rfl (pn 9 rfl ?_)
    refine e_aload_n dX0_waysToEnd_9 rfl (pn 10 rfl ?_)
    refine e_get dX0_waysToEnd_10 fl_X0_38 h1 rfl (pn 13 rfl ?_)
    refine e_icmp_ne 29 dX0_waysToEnd_13 (by decide) (fun c13 => ?_) (fun c13 => pn 16 rfl ?_)
    · have hc2 : ¬ s = a := fun e => c13 (by rw [e])
      refine e_ic (0) dX0_waysToEnd_29 (by decide) (pn 30 rfl ?_)
      exact e_iret dX0_waysToEnd_30 rfl (by rw [if_neg (fun e => hc2 e.1)]) rfl
    · have hc2 : s = a := (nI_eq (by omega) (by omega)).mp c13
      refine e_iload dX0_waysToEnd_16 rfl (pn 18 rfl ?_)
      refine e_aload_n dX0_waysToEnd_18 rfl (pn 19 rfl ?_)
      refine e_get dX0_waysToEnd_19 fl_X0_41 h1 rfl (pn 22 rfl ?_)
      refine e_icmp_ne 29 dX0_waysToEnd_22 (by decide) (fun c22 => ?_) (fun c22 => pn 25 rfl ?_)
      · have hc3 : ¬ c = b := fun e => c22 (by rw [e])
        refine e_ic (0) dX0_waysToEnd_29 (by decide) (pn 30 rfl ?_)
        exact e_iret dX0_waysToEnd_30 rfl (by rw [if_neg (fun e => hc3 e.2)]) rfl
      · have hc3 : c = b := (nI_eq (by omega) (by omega)).mp c22
        refine e_ic (1) dX0_waysToEnd_25 (by decide) (pn 26 rfl ?_)
        refine e_goto 30 dX0_waysToEnd_26 (by decide) ?_
        exact e_iret dX0_waysToEnd_30 rfl (by rw [if_pos ⟨hc2, hc3⟩]) rfl
def wbS (f : Nat → Int32) (q n m a b lm p last s c : Nat) : Nat → Int32
  | 0 => 0
  | l + 1 => wbS f q n m a b lm p last s c l + weV f q n m a b lm (p + 1) l (swN q m s (p + 1) last l) ((c + l) % lm)
theorem d_wb {w : Wd} {wr len q n m a b lm : Nat} {f : Nat → Int32} {sz : Int32} (h : cH w wr len f q n m a b lm sz) {p last s c : Nat} (hp : p ≤ 15) (h3 : last < q) (h4 : s < m) (h5 : c < lm) : CW mX0_waysByNext [.ref 15, .int (nI p), .int (nI last), .int (nI s), .int (nI c)] w (some (.int (wbS f q n m a b lm p last s c q))) w := by
  obtain ⟨hq, hn, hm, ha, hb, hlm⟩ := h.2.2.2.2
  have loop : ∀ (k l : Nat), l + k = q → EW mX0_waysByNext none 6 [.ref 15, .int (nI p), .int (nI last), .int (nI s), .int (nI c), .int (wbS f q n m a b lm p last s c l), .int (nI l)] [] w (some (.int (wbS f q n m a b lm p last s c q))) w := by
    intro k
    induction k with
    | zero =>
      intro l hl
      have e : l = q := by omega
      subst e
      refine e_iload dX0_waysByNext_6 rfl (pn 8 rfl ?_)
      refine e_aload_n dX0_waysByNext_8 rfl (pn 9 rfl ?_)
      refine e_get dX0_waysByNext_9 fl_X0_25 h.1 rfl (pn 12 rfl ?_)
      refine e_icmp_ge 56 dX0_waysByNext_12 (by decide) (fun c12 => ?_) (fun c12 => pn 15 rfl ?_)
      · refine e_iload dX0_waysByNext_56 rfl (pn 58 rfl ?_)
        exact e_iret dX0_waysByNext_58 rfl rfl rfl
      · exact absurd (nI_le (Nat.le_refl _) (by omega)) c12
    | succ k ih =>
      intro l hl
      have K := ih (l + 1) (by omega)
      rw [wbS] at K
      have hsw := swN_lt (q := q) (p := p + 1) (last := last) (l := l) (show 0 < m by omega) h4
      have hcl := Nat.mod_lt (c + l) (show 0 < lm by omega)
      refine e_iload dX0_waysByNext_6 rfl (pn 8 rfl ?_)
      refine e_aload_n dX0_waysByNext_8 rfl (pn 9 rfl ?_)
      refine e_get dX0_waysByNext_9 fl_X0_25 h.1 rfl (pn 12 rfl ?_)
      refine e_icmp_ge 56 dX0_waysByNext_12 (by decide) (fun c12 => ?_) (fun c12 => pn 15 rfl ?_)
      · exact absurd c12 (nI_ge (by omega) (by omega))
      · refine e_iload dX0_waysByNext_15 rfl (pn 17 rfl ?_)
        refine e_aload_n dX0_waysByNext_17 rfl (pn 18 rfl ?_)
        refine e_iload_n dX0_waysByNext_18 rfl (pn 19 rfl ?_)
        refine e_ic (1) dX0_waysByNext_19 (by decide) (pn 20 rfl ?_)
        refine e_iadd dX0_waysByNext_20 (pn 21 rfl ?_)
        refine e_iload dX0_waysByNext_21 rfl (pn 23 rfl ?_)
        refine e_aload_n dX0_waysByNext_23 rfl (pn 24 rfl ?_)
        refine e_iload_n dX0_waysByNext_24 rfl (pn 25 rfl ?_)
        refine e_iload_n dX0_waysByNext_25 rfl (pn 26 rfl ?_)
        refine e_ic (1) dX0_waysByNext_26 (by decide) (pn 27 rfl ?_)
        refine e_iadd dX0_waysByNext_27 (pn 28 rfl ?_)
        refine e_iload_n dX0_waysByNext_28 rfl (pn 29 rfl ?_)
        refine e_iload dX0_waysByNext_29 rfl (pn 31 rfl ?_)
        rw [nI_1]
        refine c_V1 dX0_waysByNext_31 ml_X0_73 mv_X0_sumWith (by decide) (d_sumWith h.1 hq.2 hm h4 (p := p + 1) (l := l) (by omega) (by omega) (by omega) (by omega)) h.1 rfl rfl (Nat.le_of_ble_eq_true rfl) (pn 34 rfl ?_)
        refine e_iload dX0_waysByNext_34 rfl (pn 36 rfl ?_)
        refine e_iload dX0_waysByNext_36 rfl (pn 38 rfl ?_)
        refine e_iadd dX0_waysByNext_38 (pn 39 rfl ?_)
        refine e_aload_n dX0_waysByNext_39 rfl (pn 40 rfl ?_)
        refine e_get dX0_waysByNext_40 fl_X0_32 h.1 rfl (pn 43 rfl ?_)
        refine e_irem dX0_waysByNext_43 (nI_ne0 (by omega) (by omega)) (pn 44 rfl ?_)
        rw [nI_add, pk_rem (by omega) (by omega) (by omega)]
        refine c_V1 dX0_waysByNext_44 ml_X0_76 mv_X0_waysToEnd (by decide) (d_we h (p := p + 1) (last := l) (by omega) (by omega) (by omega) hsw hcl) h.1 rfl rfl (Nat.le_of_ble_eq_true rfl) (pn 47 rfl ?_)
        refine e_iadd dX0_waysByNext_47 (pn 48 rfl ?_)
        refine s_i [_, _, _, _, _, _, _] dX0_waysByNext_48 (Nat.le_of_ble_eq_true rfl) rfl (pn 50 rfl ?_)
        refine s_inc [_, _, _, _, _, _, _] (1) dX0_waysByNext_50 (by decide) rfl (Nat.le_of_ble_eq_true rfl) rfl (pn 53 rfl ?_)
        refine e_goto 6 dX0_waysByNext_53 (by decide) ?_
        rw [nI_1]
        exact K
  refine cw_of (M := mX0_waysByNext) fx_X0_waysByNext (lv := [.ref 15, .int (nI p), .int (nI last), .int (nI s), .int (nI c), dmy, dmy]) rfl (Nat.le_of_ble_eq_true rfl) ?_
  refine e_ic (0) dX0_waysByNext_0 (by decide) (pn 1 rfl ?_)
  refine s_i [_, _, _, _, _, _, _] dX0_waysByNext_1 (Nat.le_of_ble_eq_true rfl) rfl (pn 3 rfl ?_)
  refine e_ic (0) dX0_waysByNext_3 (by decide) (pn 4 rfl ?_)
  refine s_i [_, _, _, _, _, _, _] dX0_waysByNext_4 (Nat.le_of_ble_eq_true rfl) rfl (pn 6 rfl ?_)
  exact loop q 0 (by omega)
theorem cH.up {w : Wd} {wr len q n m a b lm : Nat} {f : Nat → Int32} {sz : Int32} (h : cH w wr len f q n m a b lm sz) (g : Nat → Int32) : cH (w.set wr (aI len g)) wr len g q n m a b lm sz := by
  have e : wr ≠ 15 := fun q => by
    have h1 := h.1
    have h2 := h.2.1
    rw [q, h1] at h2
    cases h2
  exact ⟨gne e h.1, gse h.2.1, h.2.2⟩
def cbC (q n m a b lm p last s : Nat) : Nat → Nat → (Nat → Int32) → Nat → Int32
  | 0, _, f => f
  | k + 1, c, f => cbC q n m a b lm p last s k (c + 1) (va_up f (ceN q m lm p last s c) (wbS f q n m a b lm p last s c q))
def cbS (q n m a b lm p last : Nat) : Nat → Nat → (Nat → Int32) → Nat → Int32
  | 0, _, f => f
  | k + 1, s, f => cbS q n m a b lm p last k (s + 1) (cbC q n m a b lm p last s lm 0 f)
theorem d_cb {w : Wd} {wr len q n m a b lm : Nat} {f0 : Nat → Int32} {sz : Int32} (h : cH w wr len f0 q n m a b lm sz) {p last : Nat} (hp1 : 1 ≤ p) (hp : p < n) (h3 : last < q) : CW mX0_countWaysBehind [.ref 15, .int (nI p), .int (nI last)] w none (w.set wr (aI len (cbS q n m a b lm p last m 0 f0))) := by
  obtain ⟨hq, hn, hm, ha, hb, hlm⟩ := h.2.2.2.2
  have hle := h.2.2.1
  have hle2 := h.2.2.2.1
  have inner : ∀ (s : Nat), s < m → ∀ {r : Option Value} {w' : Wd} (k c : Nat) (f : Nat → Int32), c + k = lm → EW mX0_countWaysBehind none 51 [.ref 15, .int (nI p), .int (nI last), .int (nI s), dmy] [] (w.set wr (aI len (cbC q n m a b lm p last s k c f))) r w' → EW mX0_countWaysBehind none 13 [.ref 15, .int (nI p), .int (nI last), .int (nI s), .int (nI c)] [] (w.set wr (aI len f)) r w' := by
    intro s hs r w' k
    induction k with
    | zero =>
      intro c f hc K
      refine e_iload dX0_countWaysBehind_13 rfl (pn 15 rfl ?_)
      refine e_aload_n dX0_countWaysBehind_15 rfl (pn 16 rfl ?_)
      refine e_get dX0_countWaysBehind_16 fl_X0_32 (h.up f).1 rfl (pn 19 rfl ?_)
      refine e_icmp_ge 51 dX0_countWaysBehind_19 (by decide) (fun c19 => ?_) (fun c19 => pn 22 rfl ?_)
      · exact e_dr [_, _, _, _, _] 4 rfl K
      · exact absurd (nI_le (by omega) (by omega)) c19
    | succ k ih =>
      intro c f hc K
      have hp2 := h.up f
      have hx := ce_lt hp1 hp h3 hs (show c < lm by omega)
      refine e_iload dX0_countWaysBehind_13 rfl (pn 15 rfl ?_)
      refine e_aload_n dX0_countWaysBehind_15 rfl (pn 16 rfl ?_)
      refine e_get dX0_countWaysBehind_16 fl_X0_32 hp2.1 rfl (pn 19 rfl ?_)
      refine e_icmp_ge 51 dX0_countWaysBehind_19 (by decide) (fun c19 => ?_) (fun c19 => pn 22 rfl ?_)
      · exact absurd c19 (nI_ge (by omega) (by omega))
      · refine e_aload_n dX0_countWaysBehind_22 rfl (pn 23 rfl ?_)
        refine e_get dX0_countWaysBehind_23 fl_X0_21 hp2.1 rfl (pn 26 rfl ?_)
        refine e_aload_n dX0_countWaysBehind_26 rfl (pn 27 rfl ?_)
        refine e_iload_n dX0_countWaysBehind_27 rfl (pn 28 rfl ?_)
        refine e_iload_n dX0_countWaysBehind_28 rfl (pn 29 rfl ?_)
        refine e_iload_n dX0_countWaysBehind_29 rfl (pn 30 rfl ?_)
        refine e_iload dX0_countWaysBehind_30 rfl (pn 32 rfl ?_)
        refine c_V1 dX0_countWaysBehind_32 ml_X0_70 mv_X0_cell (by decide) (d_cell hp2.1 hp1) hp2.1 rfl rfl (Nat.le_of_ble_eq_true rfl) (pn 35 rfl ?_)
        refine e_aload_n dX0_countWaysBehind_35 rfl (pn 36 rfl ?_)
        refine e_iload_n dX0_countWaysBehind_36 rfl (pn 37 rfl ?_)
        refine e_iload_n dX0_countWaysBehind_37 rfl (pn 38 rfl ?_)
        refine e_iload_n dX0_countWaysBehind_38 rfl (pn 39 rfl ?_)
        refine e_iload dX0_countWaysBehind_39 rfl (pn 41 rfl ?_)
        refine c_V1 dX0_countWaysBehind_41 ml_X0_63 mv_X0_waysByNext (by decide) (d_wb hp2 (by omega) h3 hs (show c < lm by omega)) hp2.1 rfl rfl (Nat.le_of_ble_eq_true rfl) (pn 44 rfl ?_)
        refine e_iast (ceN q m lm p last s c) dX0_countWaysBehind_44 hp2.2.1 rfl (by omega) (by omega) (pn 45 rfl ?_)
        rw [List.set_set]
        refine s_inc [_, _, _, _, _] (1) dX0_countWaysBehind_45 (by decide) rfl (Nat.le_of_ble_eq_true rfl) rfl (pn 48 rfl ?_)
        refine e_goto 13 dX0_countWaysBehind_48 (by decide) ?_
        rw [nI_1]
        exact ih (c + 1) _ (by omega) K
  have outer : ∀ {r : Option Value} {w' : Wd} (k s : Nat) (f : Nat → Int32), s + k = m → EW mX0_countWaysBehind none 57 [.ref 15, .int (nI p), .int (nI last), dmy, dmy] [] (w.set wr (aI len (cbS q n m a b lm p last k s f))) r w' → EW mX0_countWaysBehind none 2 [.ref 15, .int (nI p), .int (nI last), .int (nI s), dmy] [] (w.set wr (aI len f)) r w' := by
    intro r w' k
    induction k with
    | zero =>
      intro s f hs K
      refine e_iload_n dX0_countWaysBehind_2 rfl (pn 3 rfl ?_)
      refine e_aload_n dX0_countWaysBehind_3 rfl (pn 4 rfl ?_)
      refine e_get dX0_countWaysBehind_4 fl_X0_29 (h.up f).1 rfl (pn 7 rfl ?_)
      refine e_icmp_ge 57 dX0_countWaysBehind_7 (by decide) (fun c7 => ?_) (fun c7 => pn 10 rfl ?_)
      · exact e_dr [_, _, _, _, _] 3 rfl K
      · exact absurd (nI_le (by omega) (by omega)) c7
    | succ k ih =>
      intro s f hs K
      refine e_iload_n dX0_countWaysBehind_2 rfl (pn 3 rfl ?_)
      refine e_aload_n dX0_countWaysBehind_3 rfl (pn 4 rfl ?_)
      refine e_get dX0_countWaysBehind_4 fl_X0_29 (h.up f).1 rfl (pn 7 rfl ?_)
      refine e_icmp_ge 57 dX0_countWaysBehind_7 (by decide) (fun c7 => ?_) (fun c7 => pn 10 rfl ?_)
      · exact absurd c7 (nI_ge (by omega) (by omega))
      · refine e_ic (0) dX0_countWaysBehind_10 (by decide) (pn 11 rfl ?_)
        refine s_i [_, _, _, _, _] dX0_countWaysBehind_11 (Nat.le_of_ble_eq_true rfl) rfl (pn 13 rfl ?_)
        refine inner s (by omega) lm 0 f (by omega) ?_
        refine s_inc [_, _, _, _, _] (1) dX0_countWaysBehind_51 (by decide) rfl (Nat.le_of_ble_eq_true rfl) rfl (pn 54 rfl ?_)
        refine e_goto 2 dX0_countWaysBehind_54 (by decide) ?_
        rw [nI_1]
        exact ih (s + 1) _ (by omega) K
  refine cw_of (M := mX0_countWaysBehind) fx_X0_countWaysBehind (lv := [.ref 15, .int (nI p), .int (nI last), dmy, dmy]) rfl (Nat.le_of_ble_eq_true rfl) ?_
  refine e_ic (0) dX0_countWaysBehind_0 (by decide) (pn 1 rfl ?_)
  refine s_in [_, _, _, _, _] dX0_countWaysBehind_1 (Nat.le_of_ble_eq_true rfl) rfl (pn 2 rfl ?_)
  refine pw (set_id h.2.1).symm ?_
  refine outer m 0 f0 (by omega) ?_
  exact e_vret dX0_countWaysBehind_57 rfl rfl rfl
def cwL (q n m a b lm p : Nat) : Nat → Nat → (Nat → Int32) → Nat → Int32
  | 0, _, f => f
  | k + 1, last, f => cwL q n m a b lm p k (last + 1) (cbS q n m a b lm p last m 0 f)
def cwP (q n m a b lm : Nat) : Nat → (Nat → Int32) → Nat → Int32
  | 0, f => f
  | p + 1, f => cwP q n m a b lm p (cwL q n m a b lm (p + 1) q 0 f)
theorem d_cW {w : Wd} {wr len q n m a b lm : Nat} {f0 : Nat → Int32} {sz : Int32} (h : cH w wr len f0 q n m a b lm sz) : CW mX0_countWays [.ref 15] w none ((w.set wr (aI len (cwP q n m a b lm (n - 1) f0))).set 15 (cdF wr q n m a b lm (wbS (cwP q n m a b lm (n - 1) f0) q n m a b lm 0 0 0 0 q))) := by
  obtain ⟨hq, hn, hm, ha, hb, hlm⟩ := h.2.2.2.2
  have inner : ∀ (p : Nat), 1 ≤ p → p < n → ∀ {r : Option Value} {w' : Wd} (k last : Nat) (f : Nat → Int32), last + k = q → EW mX0_countWays none 34 [.ref 15, .int (nI p), dmy] [] (w.set wr (aI len (cwL q n m a b lm p k last f))) r w' → EW mX0_countWays none 14 [.ref 15, .int (nI p), .int (nI last)] [] (w.set wr (aI len f)) r w' := by
    intro p hp1 hp r w' k
    induction k with
    | zero =>
      intro c f hc K
      refine e_iload_n dX0_countWays_14 rfl (pn 15 rfl ?_)
      refine e_aload_n dX0_countWays_15 rfl (pn 16 rfl ?_)
      refine e_get dX0_countWays_16 fl_X0_25 (h.up f).1 rfl (pn 19 rfl ?_)
      refine e_icmp_ge 34 dX0_countWays_19 (by decide) (fun c19 => ?_) (fun c19 => pn 22 rfl ?_)
      · exact e_dr [_, _, _] 2 rfl K
      · exact absurd (nI_le (by omega) (by omega)) c19
    | succ k ih =>
      intro c f hc K
      have hp2 := h.up f
      refine e_iload_n dX0_countWays_14 rfl (pn 15 rfl ?_)
      refine e_aload_n dX0_countWays_15 rfl (pn 16 rfl ?_)
      refine e_get dX0_countWays_16 fl_X0_25 hp2.1 rfl (pn 19 rfl ?_)
      refine e_icmp_ge 34 dX0_countWays_19 (by decide) (fun c19 => ?_) (fun c19 => pn 22 rfl ?_)
      · exact absurd c19 (nI_ge (by omega) (by omega))
      · refine e_aload_n dX0_countWays_22 rfl (pn 23 rfl ?_)
        refine e_iload_n dX0_countWays_23 rfl (pn 24 rfl ?_)
        refine e_iload_n dX0_countWays_24 rfl (pn 25 rfl ?_)
        refine c_V0 dX0_countWays_25 ml_X0_59 mv_X0_countWaysBehind (by decide) (d_cb hp2 hp1 hp (show c < q by omega)) hp2.1 rfl rfl (Nat.le_of_ble_eq_true rfl) (pn 28 rfl ?_)
        rw [List.set_set]
        refine s_inc [_, _, _] (1) dX0_countWays_28 (by decide) rfl (Nat.le_of_ble_eq_true rfl) rfl (pn 31 rfl ?_)
        refine e_goto 14 dX0_countWays_31 (by decide) ?_
        rw [nI_1]
        exact ih (c + 1) _ (by omega) K
  have outer : ∀ {r : Option Value} {w' : Wd} (p : Nat) (f : Nat → Int32), p < n → EW mX0_countWays none 40 [.ref 15, dmy, dmy] [] (w.set wr (aI len (cwP q n m a b lm p f))) r w' → EW mX0_countWays none 7 [.ref 15, .int (nI p), dmy] [] (w.set wr (aI len f)) r w' := by
    intro r w' p
    induction p with
    | zero =>
      intro f hs K
      refine e_iload_n dX0_countWays_7 rfl (pn 8 rfl ?_)
      refine e_ic (1) dX0_countWays_8 (by decide) (pn 9 rfl ?_)
      refine e_icmp_lt 40 dX0_countWays_9 (by decide) (fun c9 => ?_) (fun c9 => pn 12 rfl ?_)
      · exact e_dr [_, _, _] 1 rfl K
      · exact absurd (by decide) c9
    | succ p ih =>
      intro f hs K
      refine e_iload_n dX0_countWays_7 rfl (pn 8 rfl ?_)
      refine e_ic (1) dX0_countWays_8 (by decide) (pn 9 rfl ?_)
      refine e_icmp_lt 40 dX0_countWays_9 (by decide) (fun c9 => ?_) (fun c9 => pn 12 rfl ?_)
      · exact absurd c9 (nI_nlt (b := 1) (by omega) (by omega))
      · refine e_ic (0) dX0_countWays_12 (by decide) (pn 13 rfl ?_)
        refine s_in [_, _, _] dX0_countWays_13 (Nat.le_of_ble_eq_true rfl) rfl (pn 14 rfl ?_)
        refine inner (p + 1) (by omega) hs q 0 f (by omega) ?_
        refine s_inc [_, _, _] (-1) dX0_countWays_34 (by decide) rfl (Nat.le_of_ble_eq_true rfl) rfl (pn 37 rfl ?_)
        refine e_goto 7 dX0_countWays_37 (by decide) ?_
        rw [pk_m1]
        exact ih _ (by omega) K
  have hE := h.up (cwP q n m a b lm (n - 1) f0)
  refine cw_of (M := mX0_countWays) fx_X0_countWays (lv := [.ref 15, dmy, dmy]) rfl (Nat.le_of_ble_eq_true rfl) ?_
  refine e_aload_n dX0_countWays_0 rfl (pn 1 rfl ?_)
  refine e_get dX0_countWays_1 fl_X0_35 h.1 rfl (pn 4 rfl ?_)
  refine e_ic (1) dX0_countWays_4 (by decide) (pn 5 rfl ?_)
  refine e_isub dX0_countWays_5 (pn 6 rfl ?_)
  refine s_in [_, _, _] dX0_countWays_6 (Nat.le_of_ble_eq_true rfl) rfl (pn 7 rfl ?_)
  refine pw (set_id h.2.1).symm ?_
  rw [show nI n - 1 = nI (n - 1) from pk_sub (b := 1) hn.1]
  refine outer (n - 1) f0 (by omega) ?_
  refine e_aload_n dX0_countWays_40 rfl (pn 41 rfl ?_)
  refine e_aload_n dX0_countWays_41 rfl (pn 42 rfl ?_)
  refine e_ic (0) dX0_countWays_42 (by decide) (pn 43 rfl ?_)
  refine e_ic (0) dX0_countWays_43 (by decide) (pn 44 rfl ?_)
  refine e_ic (0) dX0_countWays_44 (by decide) (pn 45 rfl ?_)
  refine e_ic (0) dX0_countWays_45 (by decide) (pn 46 rfl ?_)
  refine c_V1 dX0_countWays_46 ml_X0_63 mv_X0_waysByNext (by decide) (d_wb hE (p := 0) (last := 0) (s := 0) (c := 0) (by omega) (by omega) (by omega) (by omega)) hE.1 rfl rfl (Nat.le_of_ble_eq_true rfl) (pn 49 rfl ?_)
  refine e_put dX0_countWays_49 fp_X0_67 hE.1 rfl (Nat.le_of_ble_eq_true rfl) (pn 52 rfl ?_)
  exact e_vret dX0_countWays_52 rfl rfl rfl
