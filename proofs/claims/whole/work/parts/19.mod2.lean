/-! LostLettersModel: sums, membership, counting -/
def smN (q : Nat) (u : List Nat) : Nat → Nat
  | 0 => 0
  | i + 1 => smN q u i + (if q = 2 then (i + 1) * u.getD i 0 else if 0 < i ∧ u.getD (i - 1) 0 ≤ u.getD i 0 then i else 0)
theorem smN_le {q : Nat} {u : List Nat} (ok : okL u) : ∀ i, smN q u i ≤ 4 * i * i
  | 0 => Nat.le_refl _
  | i + 1 => by
    have h1 := smN_le (q := q) ok i
    have h2 := okL_get ok i
    have h3 : (i + 1) * u.getD i 0 ≤ (i + 1) * 4 := Nat.mul_le_mul_left _ (by omega)
    have h4 : 4 * (i + 1) * (i + 1) = 4 * i * i + 8 * i + 4 := by
      simp only [Nat.mul_add, Nat.add_mul, Nat.mul_one, Nat.one_mul]; omega
    rw [smN, h4]
    split
    · omega
    · split <;> omega
theorem q_sumOf {w : Wd} {D : Md} {mf lf : Nat → Int32} (h : mB w D mf lf) (hq : D.1 ≤ 4) {s : Nat} (hs : s < 24) {u : List Nat} (hu : wM mf lf s u) (ok : okL u) : CW mX7_sumOf [.ref 41, .int (nI s)] w (some (.int (nI (smN D.1 u u.length)))) w := by
  have hu30 := hu.2.1
  have loop : ∀ (c i : Nat), i + c = u.length → EW mX7_sumOf none 4 [.ref 41, .int (nI s), .int (nI (smN D.1 u i)), .int (nI (i + 1))] [] w (some (.int (nI (smN D.1 u u.length)))) w := by
    intro c
    induction c with
    | zero =>
      intro i hi
      have e : i = u.length := by omega
      subst e
      refine e_iload_n dX7_sumOf_4 rfl (pn 5 rfl ?_)
      refine e_aload_n dX7_sumOf_5 rfl (pn 6 rfl ?_)
      refine e_get dX7_sumOf_6 fl_X7_13 h.1 rfl (pn 9 rfl ?_)
      refine e_iload_n dX7_sumOf_9 rfl (pn 10 rfl ?_)
      refine e_iald (s) dX7_sumOf_10 h.2.1 rfl hs (by omega) (pn 11 rfl ?_)
      rw [hu.1]
      refine e_icmp_gt 89 dX7_sumOf_11 (by decide) (fun c11 => ?_) (fun c11 => pn 14 rfl ?_)
      · refine e_iload_n dX7_sumOf_89 rfl (pn 90 rfl ?_)
        exact e_iret dX7_sumOf_90 rfl rfl rfl
      · exact absurd (nI_lt (by omega) (by omega)) c11
    | succ c ih =>
      intro i hi
      have K := ih (i + 1) (by omega)
      rw [smN] at K
      have l1 := okL_get ok i
      have l2 := okL_get ok (i - 1)
      have x1 : (30 : Int32) * nI s + nI (i + 1) - 1 = nI (30 * s + i) := by rw [c30]; exact pk_sub (b := 1) (by omega)
      refine e_iload_n dX7_sumOf_4 rfl (pn 5 rfl ?_)
      refine e_aload_n dX7_sumOf_5 rfl (pn 6 rfl ?_)
      refine e_get dX7_sumOf_6 fl_X7_13 h.1 rfl (pn 9 rfl ?_)
      refine e_iload_n dX7_sumOf_9 rfl (pn 10 rfl ?_)
      refine e_iald (s) dX7_sumOf_10 h.2.1 rfl hs (by omega) (pn 11 rfl ?_)
      rw [hu.1]
      refine e_icmp_gt 89 dX7_sumOf_11 (by decide) (fun c11 => ?_) (fun c11 => pn 14 rfl ?_)
      · exact absurd c11 (nI_nlt (by omega) (by omega))
      · refine e_aload_n dX7_sumOf_14 rfl (pn 15 rfl ?_)
        refine e_get dX7_sumOf_15 fl_X7_7 h.1 rfl (pn 18 rfl ?_)
        refine e_ic (2) dX7_sumOf_18 (by decide) (pn 19 rfl ?_)
        refine e_icmp_ne 43 dX7_sumOf_19 (by decide) (fun c19 => ?_) (fun c19 => pn 22 rfl ?_)
        · have hq2 : ¬ D.1 = 2 := fun e => c19 (by rw [e]; rfl)
          rw [if_neg hq2] at K
          refine e_iload_n dX7_sumOf_43 rfl (pn 44 rfl ?_)
          refine e_ic (1) dX7_sumOf_44 (by decide) (pn 45 rfl ?_)
          refine e_icmp_le 83 dX7_sumOf_45 (by decide) (fun c45 => ?_) (fun c45 => pn 48 rfl ?_)
          · have hi0 : ¬ 0 < i := fun e => nI_ge (a := 1) (b := i + 1) (by omega) (by omega) c45
            rw [if_neg (fun e => hi0 e.1), Nat.add_zero] at K
            refine s_inc [_, _, _, _] (1) dX7_sumOf_83 (by decide) rfl (Nat.le_of_ble_eq_true rfl) rfl (pn 86 rfl ?_)
            refine e_goto 4 dX7_sumOf_86 (by decide) ?_
            rw [nI_1]
            exact K
          · have hi0 : 0 < i := Nat.pos_of_ne_zero (fun e => c45 (by rw [e]; decide))
            have x2 : (30 : Int32) * nI s + nI (i + 1) - 2 = nI (30 * s + (i - 1)) := by rw [c30, show (2 : Int32) = nI 2 from rfl, pk_sub (by omega)]; congr 1; omega
            refine e_aload_n dX7_sumOf_48 rfl (pn 49 rfl ?_)
            refine e_get dX7_sumOf_49 fl_X7_17 h.1 rfl (pn 52 rfl ?_)
            refine e_bi (30) dX7_sumOf_52 (by decide) (pn 54 rfl ?_)
            refine e_iload_n dX7_sumOf_54 rfl (pn 55 rfl ?_)
            refine e_imul dX7_sumOf_55 (pn 56 rfl ?_)
            refine e_iload_n dX7_sumOf_56 rfl (pn 57 rfl ?_)
            refine e_iadd dX7_sumOf_57 (pn 58 rfl ?_)
            refine e_ic (1) dX7_sumOf_58 (by decide) (pn 59 rfl ?_)
            refine e_isub dX7_sumOf_59 (pn 60 rfl ?_)
            refine e_iald (30 * s + i) dX7_sumOf_60 h.2.2 x1 (by omega) (by omega) (pn 61 rfl ?_)
            refine e_aload_n dX7_sumOf_61 rfl (pn 62 rfl ?_)
            refine e_get dX7_sumOf_62 fl_X7_17 h.1 rfl (pn 65 rfl ?_)
            refine e_bi (30) dX7_sumOf_65 (by decide) (pn 67 rfl ?_)
            refine e_iload_n dX7_sumOf_67 rfl (pn 68 rfl ?_)
            refine e_imul dX7_sumOf_68 (pn 69 rfl ?_)
            refine e_iload_n dX7_sumOf_69 rfl (pn 70 rfl ?_)
            refine e_iadd dX7_sumOf_70 (pn 71 rfl ?_)
            refine e_ic (2) dX7_sumOf_71 (by decide) (pn 72 rfl ?_)
            refine e_isub dX7_sumOf_72 (pn 73 rfl ?_)
            refine e_iald (30 * s + (i - 1)) dX7_sumOf_73 h.2.2 x2 (by omega) (by omega) (pn 74 rfl ?_)
            rw [hu.2.2 i (by omega), hu.2.2 (i - 1) (by omega)]
            refine e_icmp_lt 83 dX7_sumOf_74 (by decide) (fun c74 => ?_) (fun c74 => pn 77 rfl ?_)
            · have hc : ¬ u.getD (i - 1) 0 ≤ u.getD i 0 := fun e => nI_nlt e (by omega) c74
              rw [if_neg (fun e => hc e.2), Nat.add_zero] at K
              refine s_inc [_, _, _, _] (1) dX7_sumOf_83 (by decide) rfl (Nat.le_of_ble_eq_true rfl) rfl (pn 86 rfl ?_)
              refine e_goto 4 dX7_sumOf_86 (by decide) ?_
              rw [nI_1]
              exact K
            · have hc : u.getD (i - 1) 0 ≤ u.getD i 0 := Nat.le_of_not_lt (fun e => c74 (nI_lt e (by omega)))
              rw [if_pos ⟨hi0, hc⟩] at K
              refine e_iload_n dX7_sumOf_77 rfl (pn 78 rfl ?_)
              refine e_iload_n dX7_sumOf_78 rfl (pn 79 rfl ?_)
              refine e_ic (1) dX7_sumOf_79 (by decide) (pn 80 rfl ?_)
              refine e_isub dX7_sumOf_80 (pn 81 rfl ?_)
              refine e_iadd dX7_sumOf_81 (pn 82 rfl ?_)
              refine s_in [_, _, _, _] dX7_sumOf_82 (Nat.le_of_ble_eq_true rfl) rfl (pn 83 rfl ?_)
              refine s_inc [_, _, _, _] (1) dX7_sumOf_83 (by decide) rfl (Nat.le_of_ble_eq_true rfl) rfl (pn 86 rfl ?_)
              refine e_goto 4 dX7_sumOf_86 (by decide) ?_
              rw [nI_pred, nI_add, nI_1]
              exact K
        · have hq2 : D.1 = 2 := (nI_eq (b := 2) (by omega) (by omega)).mp c19
          rw [if_pos hq2] at K
          refine e_iload_n dX7_sumOf_22 rfl (pn 23 rfl ?_)
          refine e_iload_n dX7_sumOf_23 rfl (pn 24 rfl ?_)
          refine e_aload_n dX7_sumOf_24 rfl (pn 25 rfl ?_)
          refine e_get dX7_sumOf_25 fl_X7_17 h.1 rfl (pn 28 rfl ?_)
          refine e_bi (30) dX7_sumOf_28 (by decide) (pn 30 rfl ?_)
          refine e_iload_n dX7_sumOf_30 rfl (pn 31 rfl ?_)
          refine e_imul dX7_sumOf_31 (pn 32 rfl ?_)
          refine e_iload_n dX7_sumOf_32 rfl (pn 33 rfl ?_)
          refine e_iadd dX7_sumOf_33 (pn 34 rfl ?_)
          refine e_ic (1) dX7_sumOf_34 (by decide) (pn 35 rfl ?_)
          refine e_isub dX7_sumOf_35 (pn 36 rfl ?_)
          refine e_iald (30 * s + i) dX7_sumOf_36 h.2.2 x1 (by omega) (by omega) (pn 37 rfl ?_)
          rw [hu.2.2 i (by omega)]
          refine e_imul dX7_sumOf_37 (pn 38 rfl ?_)
          refine e_iadd dX7_sumOf_38 (pn 39 rfl ?_)
          refine s_in [_, _, _, _] dX7_sumOf_39 (Nat.le_of_ble_eq_true rfl) rfl (pn 40 rfl ?_)
          refine e_goto 83 dX7_sumOf_40 (by decide) ?_
          refine s_inc [_, _, _, _] (1) dX7_sumOf_83 (by decide) rfl (Nat.le_of_ble_eq_true rfl) rfl (pn 86 rfl ?_)
          refine e_goto 4 dX7_sumOf_86 (by decide) ?_
          rw [pk_mul, nI_add, nI_1]
          exact K
  refine cw_of (M := mX7_sumOf) fx_X7_sumOf (lv := [.ref 41, .int (nI s), dmy, dmy]) rfl (Nat.le_of_ble_eq_true rfl) ?_
  refine e_ic (0) dX7_sumOf_0 (by decide) (pn 1 rfl ?_)
  refine s_in [_, _, _, _] dX7_sumOf_1 (Nat.le_of_ble_eq_true rfl) rfl (pn 2 rfl ?_)
  refine e_ic (1) dX7_sumOf_2 (by decide) (pn 3 rfl ?_)
  refine s_in [_, _, _, _] dX7_sumOf_3 (Nat.le_of_ble_eq_true rfl) rfl (pn 4 rfl ?_)
  exact loop u.length 0 (by omega)
theorem q_lettersOf {w : Wd} {D : Md} {mf lf : Nat → Int32} (h : mB w D mf lf) {s : Nat} (hs : s < 24) {u : List Nat} (hu : wM mf lf s u) : CW mX7_lettersOf [.ref 41, .int (nI s)] w (some (.int (nI (lsN u u.length)))) w := by
  have hu30 := hu.2.1
  have loop : ∀ (c i : Nat), i + c = u.length → EW mX7_lettersOf none 4 [.ref 41, .int (nI s), .int (nI (lsN u i)), .int (nI i)] [] w (some (.int (nI (lsN u u.length)))) w := by
    intro c
    induction c with
    | zero =>
      intro i hi
      have e : i = u.length := by omega
      subst e
      refine e_iload_n dX7_lettersOf_4 rfl (pn 5 rfl ?_)
      refine e_aload_n dX7_lettersOf_5 rfl (pn 6 rfl ?_)
      refine e_get dX7_lettersOf_6 fl_X7_13 h.1 rfl (pn 9 rfl ?_)
      refine e_iload_n dX7_lettersOf_9 rfl (pn 10 rfl ?_)
      refine e_iald (s) dX7_lettersOf_10 h.2.1 rfl hs (by omega) (pn 11 rfl ?_)
      rw [hu.1]
      refine e_icmp_ge 34 dX7_lettersOf_11 (by decide) (fun c11 => ?_) (fun c11 => pn 14 rfl ?_)
      · refine e_iload_n dX7_lettersOf_34 rfl (pn 35 rfl ?_)
        exact e_iret dX7_lettersOf_35 rfl rfl rfl
      · exact absurd (nI_le (by omega) (by omega)) c11
    | succ c ih =>
      intro i hi
      refine e_iload_n dX7_lettersOf_4 rfl (pn 5 rfl ?_)
      refine e_aload_n dX7_lettersOf_5 rfl (pn 6 rfl ?_)
      refine e_get dX7_lettersOf_6 fl_X7_13 h.1 rfl (pn 9 rfl ?_)
      refine e_iload_n dX7_lettersOf_9 rfl (pn 10 rfl ?_)
      refine e_iald (s) dX7_lettersOf_10 h.2.1 rfl hs (by omega) (pn 11 rfl ?_)
      rw [hu.1]
      refine e_icmp_ge 34 dX7_lettersOf_11 (by decide) (fun c11 => ?_) (fun c11 => pn 14 rfl ?_)
      · exact absurd c11 (nI_ge (by omega) (by omega))
      · refine e_iload_n dX7_lettersOf_14 rfl (pn 15 rfl ?_)
        refine e_aload_n dX7_lettersOf_15 rfl (pn 16 rfl ?_)
        refine e_get dX7_lettersOf_16 fl_X7_17 h.1 rfl (pn 19 rfl ?_)
        refine e_bi (30) dX7_lettersOf_19 (by decide) (pn 21 rfl ?_)
        refine e_iload_n dX7_lettersOf_21 rfl (pn 22 rfl ?_)
        refine e_imul dX7_lettersOf_22 (pn 23 rfl ?_)
        refine e_iload_n dX7_lettersOf_23 rfl (pn 24 rfl ?_)
        refine e_iadd dX7_lettersOf_24 (pn 25 rfl ?_)
        refine e_iald (30 * s + i) dX7_lettersOf_25 h.2.2 (c30 s i) (by omega) (by omega) (pn 26 rfl ?_)
        rw [hu.2.2 i (by omega)]
        refine e_iadd dX7_lettersOf_26 (pn 27 rfl ?_)
        refine s_in [_, _, _, _] dX7_lettersOf_27 (Nat.le_of_ble_eq_true rfl) rfl (pn 28 rfl ?_)
        refine s_inc [_, _, _, _] (1) dX7_lettersOf_28 (by decide) rfl (Nat.le_of_ble_eq_true rfl) rfl (pn 31 rfl ?_)
        refine e_goto 4 dX7_lettersOf_31 (by decide) ?_
        rw [nI_add, nI_1]
        exact ih (i + 1) (by omega)
  refine cw_of (M := mX7_lettersOf) fx_X7_lettersOf (lv := [.ref 41, .int (nI s), dmy, dmy]) rfl (Nat.le_of_ble_eq_true rfl) ?_
  refine e_ic (0) dX7_lettersOf_0 (by decide) (pn 1 rfl ?_)
  refine s_in [_, _, _, _] dX7_lettersOf_1 (Nat.le_of_ble_eq_true rfl) rfl (pn 2 rfl ?_)
  refine e_ic (0) dX7_lettersOf_2 (by decide) (pn 3 rfl ?_)
  refine s_in [_, _, _, _] dX7_lettersOf_3 (Nat.le_of_ble_eq_true rfl) rfl (pn 4 rfl ?_)
  exact loop u.length 0 (by omega)
abbrev isM (D : Md) (u : List Nat) : Prop := u.length = D.2.1 ∧ smN D.1 u u.length % D.2.2.1 = D.2.2.2.1 ∧ (D.1 = 2 ∨ nI (lsN u u.length % D.1) = D.2.2.2.2.1)
def cD (D : Md) : Prop := (2 ≤ D.1 ∧ D.1 ≤ 4) ∧ (1 ≤ D.2.1 ∧ D.2.1 ≤ 16) ∧ (1 ≤ D.2.2.1 ∧ D.2.2.1 ≤ 64) ∧ D.2.2.2.1 < D.2.2.1
theorem q_isCode {w : Wd} {D : Md} {mf lf : Nat → Int32} (h : mB w D mf lf) (hD : cD D) {s : Nat} (hs : s < 24) {u : List Nat} (hu : wM mf lf s u) (ok : okL u) : CW mX7_isCode [.ref 41, .int (nI s)] w (some (.int (if isM D u then 1 else 0))) w := by
  obtain ⟨hq, hn, hm, ha⟩ := hD
  have hu30 := hu.2.1
  have s1 := smN_le (q := D.1) ok u.length
  have s2 : 4 * u.length * u.length ≤ 4 * 30 * 30 := Nat.mul_le_mul (by omega) hu30
  have l1 := lsN_le ok u.length
  refine cw_of (M := mX7_isCode) fx_X7_isCode (lv := [.ref 41, .int (nI s)]) rfl (Nat.le_of_ble_eq_true rfl) ?_
  refine e_aload_n dX7_isCode_0 rfl (pn 1 rfl ?_)
  refine e_get dX7_isCode_1 fl_X7_13 h.1 rfl (pn 4 rfl ?_)
  refine e_iload_n dX7_isCode_4 rfl (pn 5 rfl ?_)
  refine e_iald (s) dX7_isCode_5 h.2.1 rfl hs (by omega) (pn 6 rfl ?_)
  refine e_aload_n dX7_isCode_6 rfl (pn 7 rfl ?_)
  refine e_get dX7_isCode_7 fl_X7_47 h.1 rfl (pn 10 rfl ?_)
  rw [hu.1]
  refine e_icmp_ne 59 dX7_isCode_10 (by decide) (fun c10 => ?_) (fun c10 => pn 13 rfl ?_)
  · have hc : ¬ u.length = D.2.1 := fun e => c10 (by rw [e])
    refine e_ic (0) dX7_isCode_59 (by decide) (pn 60 rfl ?_)
    exact e_zret dX7_isCode_60 rfl (by decide) (by rw [if_neg (fun e => hc e.1)]) rfl
  · have hc : u.length = D.2.1 := (nI_eq (by omega) (by omega)).mp c10
    refine e_aload_n dX7_isCode_13 rfl (pn 14 rfl ?_)
    refine e_iload_n dX7_isCode_14 rfl (pn 15 rfl ?_)
    refine c_V1 dX7_isCode_15 ml_X7_72 mv_X7_sumOf (by decide) (q_sumOf h hq.2 hs hu ok) h.1 rfl rfl (Nat.le_of_ble_eq_true rfl) (pn 18 rfl ?_)
    refine e_aload_n dX7_isCode_18 rfl (pn 19 rfl ?_)
    refine e_get dX7_isCode_19 fl_X7_76 h.1 rfl (pn 22 rfl ?_)
    refine e_irem dX7_isCode_22 (nI_ne0 (by omega) (by omega)) (pn 23 rfl ?_)
    rw [pk_rem (by omega) (by omega) (by omega)]
    have m1 := Nat.mod_lt (smN D.1 u u.length) (show 0 < D.2.2.1 by omega)
    refine e_aload_n dX7_isCode_23 rfl (pn 24 rfl ?_)
    refine e_get dX7_isCode_24 fl_X7_79 h.1 rfl (pn 27 rfl ?_)
    refine e_icmp_ne 59 dX7_isCode_27 (by decide) (fun c27 => ?_) (fun c27 => pn 30 rfl ?_)
    · have hc2 : ¬ smN D.1 u u.length % D.2.2.1 = D.2.2.2.1 := fun e => c27 (by rw [e])
      refine e_ic (0) dX7_isCode_59 (by decide) (pn 60 rfl ?_)
      exact e_zret dX7_isCode_60 rfl (by decide) (by rw [if_neg (fun e => hc2 e.2.1)]) rfl
    · have hc2 : smN D.1 u u.length % D.2.2.1 = D.2.2.2.1 := (nI_eq (by omega) (by omega)).mp c27
      refine e_aload_n dX7_isCode_30 rfl (pn 31 rfl ?_)
      refine e_get dX7_isCode_31 fl_X7_7 h.1 rfl (pn 34 rfl ?_)
      refine e_ic (2) dX7_isCode_34 (by decide) (pn 35 rfl ?_)
      refine e_icmp_eq 55 dX7_isCode_35 (by decide) (fun c35 => ?_) (fun c35 => pn 38 rfl ?_)
      · have hc3 : D.1 = 2 := (nI_eq (b := 2) (by omega) (by omega)).mp c35
        refine e_ic (1) dX7_isCode_55 (by decide) (pn 56 rfl ?_)
        refine e_goto 60 dX7_isCode_56 (by decide) ?_
        exact e_zret dX7_isCode_60 rfl (by decide) (by rw [if_pos ⟨hc, hc2, Or.inl hc3⟩]) rfl
      · have hc3 : ¬ D.1 = 2 := fun e => c35 (by rw [e]; rfl)
        refine e_aload_n dX7_isCode_38 rfl (pn 39 rfl ?_)
        refine e_iload_n dX7_isCode_39 rfl (pn 40 rfl ?_)
        refine c_V1 dX7_isCode_40 ml_X7_82 mv_X7_lettersOf (by decide) (q_lettersOf h hs hu) h.1 rfl rfl (Nat.le_of_ble_eq_true rfl) (pn 43 rfl ?_)
        refine e_aload_n dX7_isCode_43 rfl (pn 44 rfl ?_)
        refine e_get dX7_isCode_44 fl_X7_7 h.1 rfl (pn 47 rfl ?_)
        refine e_irem dX7_isCode_47 (nI_ne0 (by omega) (by omega)) (pn 48 rfl ?_)
        rw [pk_rem (by omega) (by omega) (by omega)]
        refine e_aload_n dX7_isCode_48 rfl (pn 49 rfl ?_)
        refine e_get dX7_isCode_49 fl_X7_85 h.1 rfl (pn 52 rfl ?_)
        refine e_icmp_ne 59 dX7_isCode_52 (by decide) (fun c52 => ?_) (fun c52 => pn 55 rfl ?_)
        · refine e_ic (0) dX7_isCode_59 (by decide) (pn 60 rfl ?_)
          exact e_zret dX7_isCode_60 rfl (by decide) (by rw [if_neg (fun e => e.2.2.elim hc3 c52)]) rfl
        · refine e_ic (1) dX7_isCode_55 (by decide) (pn 56 rfl ?_)
          refine e_goto 60 dX7_isCode_56 (by decide) ?_
          exact e_zret dX7_isCode_60 rfl (by decide) (by rw [if_pos ⟨hc, hc2, Or.inr c52⟩]) rfl
def staN (i last s c : Nat) : Nat := 1024 * i + 256 * last + 4 * s + c
theorem q_state (w : Wd) (i last s c : Nat) : CW mX7_state [.int (nI i), .int (nI last), .int (nI s), .int (nI c)] w (some (.int (nI (staN i last s c)))) w := by
  refine cw_of (M := mX7_state) fx_X7_state (lv := [.int (nI i), .int (nI last), .int (nI s), .int (nI c)]) rfl (Nat.le_of_ble_eq_true rfl) ?_
  refine e_si (1024) dX7_state_0 (by decide) (pn 3 rfl ?_)
  refine e_iload_n dX7_state_3 rfl (pn 4 rfl ?_)
  refine e_imul dX7_state_4 (pn 5 rfl ?_)
  refine e_si (256) dX7_state_5 (by decide) (pn 8 rfl ?_)
  refine e_iload_n dX7_state_8 rfl (pn 9 rfl ?_)
  refine e_imul dX7_state_9 (pn 10 rfl ?_)
  refine e_iadd dX7_state_10 (pn 11 rfl ?_)
  refine e_ic (4) dX7_state_11 (by decide) (pn 12 rfl ?_)
  refine e_iload_n dX7_state_12 rfl (pn 13 rfl ?_)
  refine e_imul dX7_state_13 (pn 14 rfl ?_)
  refine e_iadd dX7_state_14 (pn 15 rfl ?_)
  refine e_iload_n dX7_state_15 rfl (pn 16 rfl ?_)
  refine e_iadd dX7_state_16 (pn 17 rfl ?_)
  exact e_iret dX7_state_17 rfl (by rw [show (1024 : Int32) = nI 1024 from rfl, show (256 : Int32) = nI 256 from rfl, show (4 : Int32) = nI 4 from rfl, pk_mul, pk_mul, pk_mul, nI_add, nI_add, nI_add, staN]) rfl
def stpN (q i last l : Nat) : Nat := if q = 2 then (i + 1) * l else if 0 < i ∧ last ≤ l then i else 0
theorem q_step {w : Wd} {D : Md} (h : w[41]? = some (mdF D)) (hq : D.1 ≤ 4) {i last l : Nat} (hi : i < 2 ^ 20) (hla : last < 2 ^ 20) (hl : l < 2 ^ 20) : CW mX7_step [.ref 41, .int (nI i), .int (nI last), .int (nI l)] w (some (.int (nI (stpN D.1 i last l)))) w := by
  refine cw_of (M := mX7_step) fx_X7_step (lv := [.ref 41, .int (nI i), .int (nI last), .int (nI l)]) rfl (Nat.le_of_ble_eq_true rfl) ?_
  refine e_aload_n dX7_step_0 rfl (pn 1 rfl ?_)
  refine e_get dX7_step_1 fl_X7_7 h rfl (pn 4 rfl ?_)
  refine e_ic (2) dX7_step_4 (by decide) (pn 5 rfl ?_)
  refine e_icmp_ne 16 dX7_step_5 (by decide) (fun c5 => ?_) (fun c5 => pn 8 rfl ?_)
  · have hq2 : ¬ D.1 = 2 := fun e => c5 (by rw [e]; rfl)
    rw [stpN, if_neg hq2]
    refine e_iload_n dX7_step_16 rfl (pn 17 rfl ?_)
    refine e_if_le 29 dX7_step_17 (by decide) (fun c17 => ?_) (fun c17 => pn 20 rfl ?_)
    · have hc : ¬ 0 < i := fun e => nI_nle e (by omega) c17
      refine e_ic (0) dX7_step_29 (by decide) (pn 30 rfl ?_)
      exact e_iret dX7_step_30 rfl (by rw [if_neg (fun e => hc e.1)]; rfl) rfl
    · have hc : 0 < i := Nat.pos_of_ne_zero (fun e => c17 (by rw [e]; decide))
      refine e_iload_n dX7_step_20 rfl (pn 21 rfl ?_)
      refine e_iload_n dX7_step_21 rfl (pn 22 rfl ?_)
      refine e_icmp_lt 29 dX7_step_22 (by decide) (fun c22 => ?_) (fun c22 => pn 25 rfl ?_)
      · have hc2 : ¬ last ≤ l := fun e => nI_nlt e (by omega) c22
        refine e_ic (0) dX7_step_29 (by decide) (pn 30 rfl ?_)
        exact e_iret dX7_step_30 rfl (by rw [if_neg (fun e => hc2 e.2)]; rfl) rfl
      · have hc2 : last ≤ l := Nat.le_of_not_lt (fun e => c22 (nI_lt e (by omega)))
        refine e_iload_n dX7_step_25 rfl (pn 26 rfl ?_)
        refine e_goto 30 dX7_step_26 (by decide) ?_
        exact e_iret dX7_step_30 rfl (by rw [if_pos ⟨hc, hc2⟩]) rfl
  · have hq2 : D.1 = 2 := (nI_eq (b := 2) (by omega) (by omega)).mp c5
    refine e_iload_n dX7_step_8 rfl (pn 9 rfl ?_)
    refine e_ic (1) dX7_step_9 (by decide) (pn 10 rfl ?_)
    refine e_iadd dX7_step_10 (pn 11 rfl ?_)
    refine e_iload_n dX7_step_11 rfl (pn 12 rfl ?_)
    refine e_imul dX7_step_12 (pn 13 rfl ?_)
    refine e_goto 30 dX7_step_13 (by decide) ?_
    exact e_iret dX7_step_30 rfl (by rw [stpN, if_pos hq2, nI_1, pk_mul]) rfl
theorem stp_le {q i last l : Nat} (hi : i ≤ 16) (hl : l < 4) : stpN q i last l ≤ 51 := by
  have : (i + 1) * l ≤ 17 * 3 := Nat.mul_le_mul (by omega) (by omega)
  unfold stpN
  split
  · omega
  · split <;> omega
abbrev ct0 (D : Md) (i s c : Nat) : Int32 := if i = D.2.1 ∧ s = D.2.2.2.1 ∧ (D.1 = 2 ∨ nI c = D.2.2.2.2.1) then 1 else 0
def ctS (D : Md) (E : Nat → Int32) (i last s c : Nat) : Nat → Int32
  | 0 => ct0 D i s c
  | l + 1 => ctS D E i last s c l + E (staN (i + 1) l ((s + stpN D.1 i last l) % D.2.2.1) ((c + l) % D.1))
def ctV (D : Md) (E : Nat → Int32) (i last s c : Nat) : Int32 := if i < D.2.1 then ctS D E i last s c D.1 else ct0 D i s c
def ctA (D : Md) (i last s : Nat) : Nat → Nat → (Nat → Int32) → Nat → Int32
  | 0, _, E => E
  | k + 1, c, E => ctA D i last s k (c + 1) (va_up E (staN i last s c) (ctV D E i last s c))
def ctM (D : Md) (i last : Nat) : Nat → Nat → (Nat → Int32) → Nat → Int32
  | 0, _, E => E
  | k + 1, s, E => ctM D i last k (s + 1) (ctA D i last s D.1 0 E)
def ctL (D : Md) (i : Nat) : Nat → Nat → (Nat → Int32) → Nat → Int32
  | 0, _, E => E
  | k + 1, last, E => ctL D i k (last + 1) (ctM D i last D.2.2.1 0 E)
def ctI (D : Md) : Nat → (Nat → Int32) → Nat → Int32
  | 0, E => E
  | i + 1, E => ctI D i (ctL D i D.1 0 E)
theorem q_counts {w : Wd} {D : Md} (h : w[41]? = some (mdF D)) (hD : cD D) {E0 : Nat → Int32} (hE : w[44]? = some (aI 17408 E0)) : CW mX7_counts [.ref 41] w none (w.set 44 (aI 17408 (ctI D (D.2.1 + 1) E0))) := by
  obtain ⟨hq, hn, hm, ha⟩ := hD
  have up : ∀ E : Nat → Int32, (w.set 44 (aI 17408 E))[41]? = some (mdF D) ∧ (w.set 44 (aI 17408 E))[44]? = some (aI 17408 E) := fun E => ⟨gne (by decide) h, gse hE⟩
  -- the inmost loop and the store
  have cell : ∀ {r : Option Value} {w' : Wd} (i last s c : Nat) (E : Nat → Int32), i ≤ D.2.1 → last < D.1 → s < D.2.2.1 → c < D.1 → EW mX7_counts none 32 [.ref 41, .int (nI i), .int (nI last), .int (nI s), .int (nI (c + 1)), dmy, dmy] [] (w.set 44 (aI 17408 (va_up E (staN i last s c) (ctV D E i last s c)))) r w' → EW mX7_counts none 41 [.ref 41, .int (nI i), .int (nI last), .int (nI s), .int (nI c), dmy, dmy] [] (w.set 44 (aI 17408 E)) r w' := by
    intro r w' i last s c E hi hla hs hc K
    obtain ⟨g, gE⟩ := up E
    have sb : staN i last s c < 17408 := by unfold staN; omega
    have store : ∀ (v : Int32) (x6 : Value), v = ctV D E i last s c → EW mX7_counts none 150 [.ref 41, .int (nI i), .int (nI last), .int (nI s), .int (nI c), .int v, x6] [] (w.set 44 (aI 17408 E)) r w' := by
      intro v x6 hv
      subst hv
      refine e_dr [_, _, _, _, _, _, _] 6 rfl ?_
      refine e_aload_n dX7_counts_150 rfl (pn 151 rfl ?_)
      refine e_get dX7_counts_151 fl_X7_24 g rfl (pn 154 rfl ?_)
      refine e_iload_n dX7_counts_154 rfl (pn 155 rfl ?_)
      refine e_iload_n dX7_counts_155 rfl (pn 156 rfl ?_)
      refine e_iload_n dX7_counts_156 rfl (pn 157 rfl ?_)
      refine e_iload dX7_counts_157 rfl (pn 159 rfl ?_)
      refine c_S1 dX7_counts_159 ml_X7_92 ms_X7_state (by decide) (q_state _ i last s c) rfl rfl (Nat.le_of_ble_eq_true rfl) (pn 162 rfl ?_)
      refine e_iload dX7_counts_162 rfl (pn 164 rfl ?_)
      refine e_iast (staN i last s c) dX7_counts_164 gE rfl sb (by omega) (pn 165 rfl ?_)
      rw [List.set_set]
      refine s_inc [_, _, _, _, _, _, _] (1) dX7_counts_165 (by decide) rfl (Nat.le_of_ble_eq_true rfl) rfl (pn 168 rfl ?_)
      refine e_goto 32 dX7_counts_168 (by decide) ?_
      rw [nI_1]
      exact e_dr [_, _, _, _, _, _, _] 5 rfl K
    have loop : ∀ (k l : Nat), l + k = D.1 → i < D.2.1 → EW mX7_counts none 84 [.ref 41, .int (nI i), .int (nI last), .int (nI s), .int (nI c), .int (ctS D E i last s c l), .int (nI l)] [] (w.set 44 (aI 17408 E)) r w' := by
      intro k
      induction k with
      | zero =>
        intro l hl hin
        have e : l = D.1 := by omega
        subst e
        refine e_iload dX7_counts_84 rfl (pn 86 rfl ?_)
        refine e_aload_n dX7_counts_86 rfl (pn 87 rfl ?_)
        refine e_get dX7_counts_87 fl_X7_7 g rfl (pn 90 rfl ?_)
        refine e_icmp_ge 150 dX7_counts_90 (by decide) (fun c90 => ?_) (fun c90 => pn 93 rfl ?_)
        · exact store _ _ (by rw [ctV, if_pos hin])
        · exact absurd (nI_le (by omega) (by omega)) c90
      | succ k ih =>
        intro l hl hin
        have K2 := ih (l + 1) (by omega) hin
        rw [ctS] at K2
        have st1 := stp_le (q := D.1) (i := i) (last := last) (l := l) (by omega) (by omega)
        have mm := Nat.mod_lt (s + stpN D.1 i last l) (show 0 < D.2.2.1 by omega)
        have mq := Nat.mod_lt (c + l) (show 0 < D.1 by omega)
        have sb2 : staN (i + 1) l ((s + stpN D.1 i last l) % D.2.2.1) ((c + l) % D.1) < 17408 := by unfold staN; omega
        refine e_iload dX7_counts_84 rfl (pn 86 rfl ?_)
        refine e_aload_n dX7_counts_86 rfl (pn 87 rfl ?_)
        refine e_get dX7_counts_87 fl_X7_7 g rfl (pn 90 rfl ?_)
        refine e_icmp_ge 150 dX7_counts_90 (by decide) (fun c90 => ?_) (fun c90 => pn 93 rfl ?_)
        · exact absurd c90 (nI_ge (by omega) (by omega))
        · refine e_iload_n dX7_counts_93 rfl (pn 94 rfl ?_)
          refine e_aload_n dX7_counts_94 rfl (pn 95 rfl ?_)
          refine e_get dX7_counts_95 fl_X7_47 g rfl (pn 98 rfl ?_)
          refine e_icmp_ge 150 dX7_counts_98 (by decide) (fun c98 => ?_) (fun c98 => pn 101 rfl ?_)
          · exact absurd c98 (nI_ge (by omega) (by omega))
          · refine e_iload dX7_counts_101 rfl (pn 103 rfl ?_)
            refine e_aload_n dX7_counts_103 rfl (pn 104 rfl ?_)
            refine e_get dX7_counts_104 fl_X7_24 g rfl (pn 107 rfl ?_)
            refine e_iload_n dX7_counts_107 rfl (pn 108 rfl ?_)
            refine e_ic (1) dX7_counts_108 (by decide) (pn 109 rfl ?_)
            refine e_iadd dX7_counts_109 (pn 110 rfl ?_)
            refine e_iload dX7_counts_110 rfl (pn 112 rfl ?_)
            refine e_iload_n dX7_counts_112 rfl (pn 113 rfl ?_)
            refine e_aload_n dX7_counts_113 rfl (pn 114 rfl ?_)
            refine e_iload_n dX7_counts_114 rfl (pn 115 rfl ?_)
            refine e_iload_n dX7_counts_115 rfl (pn 116 rfl ?_)
            refine e_iload dX7_counts_116 rfl (pn 118 rfl ?_)
            refine c_V1 dX7_counts_118 ml_X7_88 mv_X7_step (by decide) (q_step g hq.2 (i := i) (last := last) (l := l) (by omega) (by omega) (by omega)) g rfl rfl (Nat.le_of_ble_eq_true rfl) (pn 121 rfl ?_)
            refine e_iadd dX7_counts_121 (pn 122 rfl ?_)
            refine e_aload_n dX7_counts_122 rfl (pn 123 rfl ?_)
            refine e_get dX7_counts_123 fl_X7_76 g rfl (pn 126 rfl ?_)
            rw [nI_1, nI_add]
            refine e_irem dX7_counts_126 (nI_ne0 (by omega) (by omega)) (pn 127 rfl ?_)
            refine e_iload dX7_counts_127 rfl (pn 129 rfl ?_)
            refine e_iload dX7_counts_129 rfl (pn 131 rfl ?_)
            refine e_iadd dX7_counts_131 (pn 132 rfl ?_)
            refine e_aload_n dX7_counts_132 rfl (pn 133 rfl ?_)
            refine e_get dX7_counts_133 fl_X7_7 g rfl (pn 136 rfl ?_)
            rw [pk_rem (by omega) (by omega) (by omega), nI_add]
            refine e_irem dX7_counts_136 (nI_ne0 (by omega) (by omega)) (pn 137 rfl ?_)
            rw [pk_rem (by omega) (by omega) (by omega)]
            refine c_S1 dX7_counts_137 ml_X7_92 ms_X7_state (by decide) (q_state _ _ _ _ _) rfl rfl (Nat.le_of_ble_eq_true rfl) (pn 140 rfl ?_)
            refine e_iald (staN (i + 1) l ((s + stpN D.1 i last l) % D.2.2.1) ((c + l) % D.1)) dX7_counts_140 gE rfl sb2 (by omega) (pn 141 rfl ?_)
            refine e_iadd dX7_counts_141 (pn 142 rfl ?_)
            refine s_i [_, _, _, _, _, _, _] dX7_counts_142 (Nat.le_of_ble_eq_true rfl) rfl (pn 144 rfl ?_)
            refine s_inc [_, _, _, _, _, _, _] (1) dX7_counts_144 (by decide) rfl (Nat.le_of_ble_eq_true rfl) rfl (pn 147 rfl ?_)
            refine e_goto 84 dX7_counts_147 (by decide) ?_
            rw [nI_1]
            exact K2
    have behind : ∀ v0 : Int32, v0 = ct0 D i s c → EW mX7_counts none 79 [.ref 41, .int (nI i), .int (nI last), .int (nI s), .int (nI c), dmy, dmy] [.int v0] (w.set 44 (aI 17408 E)) r w' := by
      intro v0 hv0
      subst hv0
      refine s_i [_, _, _, _, _, _, _] dX7_counts_79 (Nat.le_of_ble_eq_true rfl) rfl (pn 81 rfl ?_)
      refine e_ic (0) dX7_counts_81 (by decide) (pn 82 rfl ?_)
      refine s_i [_, _, _, _, _, _, _] dX7_counts_82 (Nat.le_of_ble_eq_true rfl) rfl (pn 84 rfl ?_)
      by_cases hin : i < D.2.1
      · exact loop D.1 0 (by omega) hin
      · refine e_iload dX7_counts_84 rfl (pn 86 rfl ?_)
        refine e_aload_n dX7_counts_86 rfl (pn 87 rfl ?_)
        refine e_get dX7_counts_87 fl_X7_7 g rfl (pn 90 rfl ?_)
        refine e_icmp_ge 150 dX7_counts_90 (by decide) (fun c90 => ?_) (fun c90 => pn 93 rfl ?_)
        · exact store _ _ (by rw [ctV, if_neg hin])
        · refine e_iload_n dX7_counts_93 rfl (pn 94 rfl ?_)
          refine e_aload_n dX7_counts_94 rfl (pn 95 rfl ?_)
          refine e_get dX7_counts_95 fl_X7_47 g rfl (pn 98 rfl ?_)
          refine e_icmp_ge 150 dX7_counts_98 (by decide) (fun c98 => ?_) (fun c98 => pn 101 rfl ?_)
          · exact store _ _ (by rw [ctV, if_neg hin])
          · exact absurd (nI_le (by omega) (by omega)) c98
    refine e_iload_n dX7_counts_41 rfl (pn 42 rfl ?_)
    refine e_aload_n dX7_counts_42 rfl (pn 43 rfl ?_)
    refine e_get dX7_counts_43 fl_X7_47 g rfl (pn 46 rfl ?_)
    refine e_icmp_ne 78 dX7_counts_46 (by decide) (fun c46 => ?_) (fun c46 => pn 49 rfl ?_)
    · have hc1 : ¬ i = D.2.1 := fun e => c46 (by rw [e])
      refine e_ic (0) dX7_counts_78 (by decide) (pn 79 rfl ?_)
      exact behind 0 (by rw [ct0, if_neg (fun e => hc1 e.1)])
    · have hc1 : i = D.2.1 := (nI_eq (by omega) (by omega)).mp c46
      refine e_iload_n dX7_counts_49 rfl (pn 50 rfl ?_)
      refine e_aload_n dX7_counts_50 rfl (pn 51 rfl ?_)
      refine e_get dX7_counts_51 fl_X7_79 g rfl (pn 54 rfl ?_)
      refine e_icmp_ne 78 dX7_counts_54 (by decide) (fun c54 => ?_) (fun c54 => pn 57 rfl ?_)
      · have hc2 : ¬ s = D.2.2.2.1 := fun e => c54 (by rw [e])
        refine e_ic (0) dX7_counts_78 (by decide) (pn 79 rfl ?_)
        exact behind 0 (by rw [ct0, if_neg (fun e => hc2 e.2.1)])
      · have hc2 : s = D.2.2.2.1 := (nI_eq (by omega) (by omega)).mp c54
        refine e_aload_n dX7_counts_57 rfl (pn 58 rfl ?_)
        refine e_get dX7_counts_58 fl_X7_7 g rfl (pn 61 rfl ?_)
        refine e_ic (2) dX7_counts_61 (by decide) (pn 62 rfl ?_)
        refine e_icmp_eq 74 dX7_counts_62 (by decide) (fun c62 => ?_) (fun c62 => pn 65 rfl ?_)
        · have hc3 : D.1 = 2 := (nI_eq (b := 2) (by omega) (by omega)).mp c62
          refine e_ic (1) dX7_counts_74 (by decide) (pn 75 rfl ?_)
          refine e_goto 79 dX7_counts_75 (by decide) ?_
          exact behind 1 (by rw [ct0, if_pos ⟨hc1, hc2, Or.inl hc3⟩])
        · have hc3 : ¬ D.1 = 2 := fun e => c62 (by rw [e]; rfl)
          refine e_iload dX7_counts_65 rfl (pn 67 rfl ?_)
          refine e_aload_n dX7_counts_67 rfl (pn 68 rfl ?_)
          refine e_get dX7_counts_68 fl_X7_85 g rfl (pn 71 rfl ?_)
          refine e_icmp_ne 78 dX7_counts_71 (by decide) (fun c71 => ?_) (fun c71 => pn 74 rfl ?_)
          · refine e_ic (0) dX7_counts_78 (by decide) (pn 79 rfl ?_)
            exact behind 0 (by rw [ct0, if_neg (fun e => e.2.2.elim hc3 c71)])
          · refine e_ic (1) dX7_counts_74 (by decide) (pn 75 rfl ?_)
            refine e_goto 79 dX7_counts_75 (by decide) ?_
            exact behind 1 (by rw [ct0, if_pos ⟨hc1, hc2, Or.inr c71⟩])
  have lA : ∀ {r : Option Value} {w' : Wd} (i last s : Nat), i ≤ D.2.1 → last < D.1 → s < D.2.2.1 → ∀ (k c : Nat) (E : Nat → Int32), c + k = D.1 → EW mX7_counts none 171 [.ref 41, .int (nI i), .int (nI last), .int (nI s), dmy, dmy, dmy] [] (w.set 44 (aI 17408 (ctA D i last s k c E))) r w' → EW mX7_counts none 32 [.ref 41, .int (nI i), .int (nI last), .int (nI s), .int (nI c), dmy, dmy] [] (w.set 44 (aI 17408 E)) r w' := by
    intro r w' i last s hi hla hs k
    induction k with
    | zero =>
      intro c E hc K
      refine e_iload dX7_counts_32 rfl (pn 34 rfl ?_)
      refine e_aload_n dX7_counts_34 rfl (pn 35 rfl ?_)
      refine e_get dX7_counts_35 fl_X7_7 (up E).1 rfl (pn 38 rfl ?_)
      refine e_icmp_ge 171 dX7_counts_38 (by decide) (fun c38 => ?_) (fun c38 => pn 41 rfl ?_)
      · exact e_dr [_, _, _, _, _, _, _] 4 rfl K
      · exact absurd (nI_le (by omega) (by omega)) c38
    | succ k ih =>
      intro c E hc K
      refine e_iload dX7_counts_32 rfl (pn 34 rfl ?_)
      refine e_aload_n dX7_counts_34 rfl (pn 35 rfl ?_)
      refine e_get dX7_counts_35 fl_X7_7 (up E).1 rfl (pn 38 rfl ?_)
      refine e_icmp_ge 171 dX7_counts_38 (by decide) (fun c38 => ?_) (fun c38 => pn 41 rfl ?_)
      · exact absurd c38 (nI_ge (by omega) (by omega))
      · exact cell i last s c E hi hla hs (by omega) (ih (c + 1) _ (by omega) K)
  have lM : ∀ {r : Option Value} {w' : Wd} (i last : Nat), i ≤ D.2.1 → last < D.1 → ∀ (k s : Nat) (E : Nat → Int32), s + k = D.2.2.1 → EW mX7_counts none 177 [.ref 41, .int (nI i), .int (nI last), dmy, dmy, dmy, dmy] [] (w.set 44 (aI 17408 (ctM D i last k s E))) r w' → EW mX7_counts none 21 [.ref 41, .int (nI i), .int (nI last), .int (nI s), dmy, dmy, dmy] [] (w.set 44 (aI 17408 E)) r w' := by
    intro r w' i last hi hla k
    induction k with
    | zero =>
      intro s E hs K
      refine e_iload_n dX7_counts_21 rfl (pn 22 rfl ?_)
      refine e_aload_n dX7_counts_22 rfl (pn 23 rfl ?_)
      refine e_get dX7_counts_23 fl_X7_76 (up E).1 rfl (pn 26 rfl ?_)
      refine e_icmp_ge 177 dX7_counts_26 (by decide) (fun c26 => ?_) (fun c26 => pn 29 rfl ?_)
      · exact e_dr [_, _, _, _, _, _, _] 3 rfl K
      · exact absurd (nI_le (by omega) (by omega)) c26
    | succ k ih =>
      intro s E hs K
      refine e_iload_n dX7_counts_21 rfl (pn 22 rfl ?_)
      refine e_aload_n dX7_counts_22 rfl (pn 23 rfl ?_)
      refine e_get dX7_counts_23 fl_X7_76 (up E).1 rfl (pn 26 rfl ?_)
      refine e_icmp_ge 177 dX7_counts_26 (by decide) (fun c26 => ?_) (fun c26 => pn 29 rfl ?_)
      · exact absurd c26 (nI_ge (by omega) (by omega))
      · refine e_ic (0) dX7_counts_29 (by decide) (pn 30 rfl ?_)
        refine s_i [_, _, _, _, _, _, _] dX7_counts_30 (Nat.le_of_ble_eq_true rfl) rfl (pn 32 rfl ?_)
        refine lA i last s hi hla (by omega) D.1 0 E (by omega) ?_
        refine s_inc [_, _, _, _, _, _, _] (1) dX7_counts_171 (by decide) rfl (Nat.le_of_ble_eq_true rfl) rfl (pn 174 rfl ?_)
        refine e_goto 21 dX7_counts_174 (by decide) ?_
        rw [nI_1]
        exact ih (s + 1) _ (by omega) K
  have lL : ∀ {r : Option Value} {w' : Wd} (i : Nat), i ≤ D.2.1 → ∀ (k last : Nat) (E : Nat → Int32), last + k = D.1 → EW mX7_counts none 183 [.ref 41, .int (nI i), dmy, dmy, dmy, dmy, dmy] [] (w.set 44 (aI 17408 (ctL D i k last E))) r w' → EW mX7_counts none 11 [.ref 41, .int (nI i), .int (nI last), dmy, dmy, dmy, dmy] [] (w.set 44 (aI 17408 E)) r w' := by
    intro r w' i hi k
    induction k with
    | zero =>
      intro last E hl K
      refine e_iload_n dX7_counts_11 rfl (pn 12 rfl ?_)
      refine e_aload_n dX7_counts_12 rfl (pn 13 rfl ?_)
      refine e_get dX7_counts_13 fl_X7_7 (up E).1 rfl (pn 16 rfl ?_)
      refine e_icmp_ge 183 dX7_counts_16 (by decide) (fun c16 => ?_) (fun c16 => pn 19 rfl ?_)
      · exact e_dr [_, _, _, _, _, _, _] 2 rfl K
      · exact absurd (nI_le (by omega) (by omega)) c16
    | succ k ih =>
      intro last E hl K
      refine e_iload_n dX7_counts_11 rfl (pn 12 rfl ?_)
      refine e_aload_n dX7_counts_12 rfl (pn 13 rfl ?_)
      refine e_get dX7_counts_13 fl_X7_7 (up E).1 rfl (pn 16 rfl ?_)
      refine e_icmp_ge 183 dX7_counts_16 (by decide) (fun c16 => ?_) (fun c16 => pn 19 rfl ?_)
      · exact absurd c16 (nI_ge (by omega) (by omega))
      · refine e_ic (0) dX7_counts_19 (by decide) (pn 20 rfl ?_)
        refine s_in [_, _, _, _, _, _, _] dX7_counts_20 (Nat.le_of_ble_eq_true rfl) rfl (pn 21 rfl ?_)
        refine lM i last hi (by omega) D.2.2.1 0 E (by omega) ?_
        refine s_inc [_, _, _, _, _, _, _] (1) dX7_counts_177 (by decide) rfl (Nat.le_of_ble_eq_true rfl) rfl (pn 180 rfl ?_)
        refine e_goto 11 dX7_counts_180 (by decide) ?_
        rw [nI_1]
        exact ih (last + 1) _ (by omega) K
  have lI : ∀ {r : Option Value} {w' : Wd} (k : Nat) (E : Nat → Int32), k ≤ D.2.1 + 1 → EW mX7_counts none 189 [.ref 41, dmy, dmy, dmy, dmy, dmy, dmy] [] (w.set 44 (aI 17408 (ctI D k E))) r w' → EW mX7_counts none 5 [.ref 41, .int (nI k + (-1)), dmy, dmy, dmy, dmy, dmy] [] (w.set 44 (aI 17408 E)) r w' := by
    intro r w' k
    induction k with
    | zero =>
      intro E hk K
      refine e_iload_n dX7_counts_5 rfl (pn 6 rfl ?_)
      refine e_if_lt 189 dX7_counts_6 (by decide) (fun c6 => ?_) (fun c6 => pn 9 rfl ?_)
      · exact e_dr [_, _, _, _, _, _, _] 1 rfl K
      · exact absurd ((m1_lt 0 (by decide)).mpr rfl) c6
    | succ k ih =>
      intro E hk K
      simp only [pk_m1]
      refine e_iload_n dX7_counts_5 rfl (pn 6 rfl ?_)
      refine e_if_lt 189 dX7_counts_6 (by decide) (fun c6 => ?_) (fun c6 => pn 9 rfl ?_)
      · exact absurd c6 (nI_pos (by omega))
      · refine e_ic (0) dX7_counts_9 (by decide) (pn 10 rfl ?_)
        refine s_in [_, _, _, _, _, _, _] dX7_counts_10 (Nat.le_of_ble_eq_true rfl) rfl (pn 11 rfl ?_)
        refine lL k (by omega) D.1 0 E (by omega) ?_
        refine s_inc [_, _, _, _, _, _, _] (-1) dX7_counts_183 (by decide) rfl (Nat.le_of_ble_eq_true rfl) rfl (pn 186 rfl ?_)
        refine e_goto 5 dX7_counts_186 (by decide) ?_
        exact ih _ (by omega) K
  refine cw_of (M := mX7_counts) fx_X7_counts (lv := [.ref 41, dmy, dmy, dmy, dmy, dmy, dmy]) rfl (Nat.le_of_ble_eq_true rfl) ?_
  refine e_aload_n dX7_counts_0 rfl (pn 1 rfl ?_)
  refine e_get dX7_counts_1 fl_X7_47 h rfl (pn 4 rfl ?_)
  refine s_in [_, _, _, _, _, _, _] dX7_counts_4 (Nat.le_of_ble_eq_true rfl) rfl (pn 5 rfl ?_)
  refine pw (set_id hE).symm ?_
  rw [← pk_m1 D.2.1]
  refine lI (D.2.1 + 1) E0 (Nat.le_refl _) ?_
  exact e_vret dX7_counts_189 rfl rfl rfl
theorem q_codeSize {w : Wd} {D : Md} (h : w[41]? = some (mdF D)) {E : Nat → Int32} (hE : w[44]? = some (aI 17408 E)) : CW mX7_codeSize [.ref 41] w (some (.int (E 0))) w := by
  refine cw_of (M := mX7_codeSize) fx_X7_codeSize (lv := [.ref 41]) rfl (Nat.le_of_ble_eq_true rfl) ?_
  refine e_aload_n dX7_codeSize_0 rfl (pn 1 rfl ?_)
  refine e_get dX7_codeSize_1 fl_X7_24 h rfl (pn 4 rfl ?_)
  refine e_ic (0) dX7_codeSize_4 (by decide) (pn 5 rfl ?_)
  refine e_ic (0) dX7_codeSize_5 (by decide) (pn 6 rfl ?_)
  refine e_ic (0) dX7_codeSize_6 (by decide) (pn 7 rfl ?_)
  refine e_ic (0) dX7_codeSize_7 (by decide) (pn 8 rfl ?_)
  refine c_S1 dX7_codeSize_8 ml_X7_92 ms_X7_state (by decide) (q_state w 0 0 0 0) rfl rfl (Nat.le_of_ble_eq_true rfl) (pn 11 rfl ?_)
  refine e_iald (0) dX7_codeSize_11 hE rfl (by decide) (by omega) (pn 12 rfl ?_)
  exact e_iret dX7_codeSize_12 rfl rfl rfl
