/-! liesIn, by -/
theorem X_lies0 (w : Wd) {s t : Int32} (h : ¬ (rOK s ∧ rOK t)) : CW mX6_liesIn [.ref 1, .int s, .int t] w (some (.long (-1))) w := by
  refine cw_of (M := mX6_liesIn) fx_X6_liesIn (lv := [.ref 1, .int s, .int t]) rfl (Nat.le_of_ble_eq_true rfl) ?_
  refine e_iload_n dX6_liesIn_0 rfl (pn 1 rfl ?_)
  refine c_S1 dX6_liesIn_1 ml_X6_62 ms_X6_isRegister (by decide) (x_isR w s) rfl rfl (Nat.le_of_ble_eq_true rfl) (pn 4 rfl ?_)
  rcases r2_cases h with hs | ⟨hs, ht⟩
  · rw [iR0 hs]
    refine e_if_eq 14 dX6_liesIn_4 (by decide) (fun _ => ?_) (fun c_9 => absurd (by decide) c_9)
    refine e_ldc2 dX6_liesIn_14 lk_X6_134 (pn 17 rfl ?_)
    exact e_lret dX6_liesIn_17 rfl rfl rfl
  · rw [iRp hs]
    refine e_if_eq 14 dX6_liesIn_4 (by decide) (fun c_9 => absurd c_9 (by decide)) (fun _ => pn 7 rfl ?_)
    refine e_iload_n dX6_liesIn_7 rfl (pn 8 rfl ?_)
    refine c_S1 dX6_liesIn_8 ml_X6_62 ms_X6_isRegister (by decide) (x_isR w t) rfl rfl (Nat.le_of_ble_eq_true rfl) (pn 11 rfl ?_)
    rw [iR0 ht]
    refine e_if_ne 18 dX6_liesIn_11 (by decide) (fun c_9 => absurd c_9 (by decide)) (fun _ => pn 14 rfl ?_)
    refine e_ldc2 dX6_liesIn_14 lk_X6_134 (pn 17 rfl ?_)
    exact e_lret dX6_liesIn_17 rfl rfl rfl
theorem X_lies1 {w : Wd} {S : St} (hS : SI S) (h : XI w S) {s t : Nat} (hs : s < 12) (ht : t < 12) : ∃ w1, CW mX6_liesIn [.ref 1, .int (nI s), .int (nI t)] w (some (.long (lN (em (S.2.1 s) (S.2.1 t))))) w1 ∧ FX w w1 ∧ XI w1 S := by
  obtain ⟨e, g, hp⟩ := h.2.2.1
  have O := o_V hp (h.1.2.2 s hs) (h.1.2.2 t ht) (hS.w hs) (hS.w ht)
  rw [hoV_v] at O
  refine ⟨_, ?_, ag _ (by decide), h.s20 hS (hoV (S.2.1 s) (S.2.1 t) e)⟩
  refine cw_of (M := mX6_liesIn) fx_X6_liesIn (lv := [.ref 1, .int (nI s), .int (nI t)]) rfl (Nat.le_of_ble_eq_true rfl) ?_
  refine e_iload_n dX6_liesIn_0 rfl (pn 1 rfl ?_)
  refine c_S1 dX6_liesIn_1 ml_X6_62 ms_X6_isRegister (by decide) (x_isR w _) rfl rfl (Nat.le_of_ble_eq_true rfl) (pn 4 rfl ?_)
  rw [iR1 hs]
  refine e_if_eq 14 dX6_liesIn_4 (by decide) (fun c_9 => absurd c_9 (by decide)) (fun _ => pn 7 rfl ?_)
  refine e_iload_n dX6_liesIn_7 rfl (pn 8 rfl ?_)
  refine c_S1 dX6_liesIn_8 ml_X6_62 ms_X6_isRegister (by decide) (x_isR w _) rfl rfl (Nat.le_of_ble_eq_true rfl) (pn 11 rfl ?_)
  rw [iR1 ht]
  refine e_if_ne 18 dX6_liesIn_11 (by decide) (fun _ => ?_) (fun c_9 => absurd c_9 (by decide))
  refine e_aload_n dX6_liesIn_18 rfl (pn 19 rfl ?_)
  refine e_get dX6_liesIn_19 fl_X6_30 h.1.1 rfl (pn 22 rfl ?_)
  refine e_aload_n dX6_liesIn_22 rfl (pn 23 rfl ?_)
  refine e_get dX6_liesIn_23 fl_X6_15 h.1.1 rfl (pn 26 rfl ?_)
  refine e_iload_n dX6_liesIn_26 rfl (pn 27 rfl ?_)
  refine e_aald (s) dX6_liesIn_27 h.1.2.1 rfl hs (by omega) (rf12_v hs) (pn 28 rfl ?_)
  refine e_aload_n dX6_liesIn_28 rfl (pn 29 rfl ?_)
  refine e_get dX6_liesIn_29 fl_X6_15 h.1.1 rfl (pn 32 rfl ?_)
  refine e_iload_n dX6_liesIn_32 rfl (pn 33 rfl ?_)
  refine e_aald (t) dX6_liesIn_33 h.1.2.1 rfl ht (by omega) (rf12_v ht) (pn 34 rfl ?_)
  refine c_V1 dX6_liesIn_34 ml_X6_136 mv_X3_howOften (by decide) O hp.1 rfl rfl (Nat.le_of_ble_eq_true rfl) (pn 37 rfl ?_)
  exact e_lret dX6_liesIn_37 rfl rfl rfl
theorem X_by0 (w : Wd) {s n v : Int32} (h : ¬ (rOK s ∧ (0 ≤ n ∧ n ≤ 6) ∧ (0 ≤ v ∧ v ≤ 1))) : CW mX6_by [.ref 1, .int s, .int n, .int v] w (some (.long (-1))) w := by
  refine cw_of (M := mX6_by) fx_X6_by (lv := [.ref 1, .int s, .int n, .int v]) rfl (Nat.le_of_ble_eq_true rfl) ?_
  refine e_iload_n dX6_by_0 rfl (pn 1 rfl ?_)
  refine c_S1 dX6_by_1 ml_X6_62 ms_X6_isRegister (by decide) (x_isR w s) rfl rfl (Nat.le_of_ble_eq_true rfl) (pn 4 rfl ?_)
  by_cases hs : rOK s
  · rw [iRp hs]
    refine e_if_eq 24 dX6_by_4 (by decide) (fun c_9 => absurd c_9 (by decide)) (fun _ => pn 7 rfl ?_)
    refine e_iload_n dX6_by_7 rfl (pn 8 rfl ?_)
    refine e_if_lt 24 dX6_by_8 (by decide) (fun c8 => ?_) (fun c8 => pn 11 rfl ?_)
    · refine e_ldc2 dX6_by_24 lk_X6_134 (pn 27 rfl ?_)
      exact e_lret dX6_by_27 rfl rfl rfl
    · refine e_iload_n dX6_by_11 rfl (pn 12 rfl ?_)
      refine e_bi (6) dX6_by_12 (by decide) (pn 14 rfl ?_)
      refine e_icmp_gt 24 dX6_by_14 (by decide) (fun c14 => ?_) (fun c14 => pn 17 rfl ?_)
      · refine e_ldc2 dX6_by_24 lk_X6_134 (pn 27 rfl ?_)
        exact e_lret dX6_by_27 rfl rfl rfl
      · refine e_iload_n dX6_by_17 rfl (pn 18 rfl ?_)
        refine c_S1 dX6_by_18 ml_X6_152 ms_X6_isEither (by decide) (x_isE w v) rfl rfl (Nat.le_of_ble_eq_true rfl) (pn 21 rfl ?_)
        rw [if_neg (fun e => h ⟨hs, ⟨by rw [fa_lt] at c8; rw [fa_le]; omega, by rw [fa_lt] at c14; rw [fa_le]; omega⟩, e⟩)]
        refine e_if_ne 28 dX6_by_21 (by decide) (fun c_9 => absurd c_9 (by decide)) (fun _ => pn 24 rfl ?_)
        refine e_ldc2 dX6_by_24 lk_X6_134 (pn 27 rfl ?_)
        exact e_lret dX6_by_27 rfl rfl rfl
  · rw [iR0 hs]
    refine e_if_eq 24 dX6_by_4 (by decide) (fun _ => ?_) (fun c_9 => absurd (by decide) c_9)
    refine e_ldc2 dX6_by_24 lk_X6_134 (pn 27 rfl ?_)
    exact e_lret dX6_by_27 rfl rfl rfl
theorem X_by1 {w : Wd} {S : St} (hS : SI S) (h : XI w S) {s n : Nat} (hs : s < 12) (hn : n ≤ 6) : CW mX6_by [.ref 1, .int (nI s), .int (nI n), .int 1] w (some (.long (gaS (nI (S.2.1 s).length + nI n) (nI S.1 - 1) (n + 1) 0 0))) w := by
  obtain ⟨e, g, hp⟩ := h.2.2.1
  have G := g_by (h.1.2.2 s hs) (q := nI S.1) hn
  rw [bg_v] at G
  refine cw_of (M := mX6_by) fx_X6_by (lv := [.ref 1, .int (nI s), .int (nI n), .int 1]) rfl (Nat.le_of_ble_eq_true rfl) ?_
  refine e_iload_n dX6_by_0 rfl (pn 1 rfl ?_)
  refine c_S1 dX6_by_1 ml_X6_62 ms_X6_isRegister (by decide) (x_isR w _) rfl rfl (Nat.le_of_ble_eq_true rfl) (pn 4 rfl ?_)
  rw [iR1 hs]
  refine e_if_eq 24 dX6_by_4 (by decide) (fun c_9 => absurd c_9 (by decide)) (fun _ => pn 7 rfl ?_)
  refine e_iload_n dX6_by_7 rfl (pn 8 rfl ?_)
  refine e_if_lt 24 dX6_by_8 (by decide) (fun c_9 => absurd c_9 (nI_pos (by omega))) (fun _ => pn 11 rfl ?_)
  refine e_iload_n dX6_by_11 rfl (pn 12 rfl ?_)
  refine e_bi (6) dX6_by_12 (by decide) (pn 14 rfl ?_)
  refine e_icmp_gt 24 dX6_by_14 (by decide) (fun c_9 => absurd c_9 (nI_nlt (a := 6) hn (by omega))) (fun _ => pn 17 rfl ?_)
  refine e_iload_n dX6_by_17 rfl (pn 18 rfl ?_)
  refine c_S1 dX6_by_18 ml_X6_152 ms_X6_isEither (by decide) (x_isE w 1) rfl rfl (Nat.le_of_ble_eq_true rfl) (pn 21 rfl ?_)
  rw [if_pos (by decide)]
  refine e_if_ne 28 dX6_by_21 (by decide) (fun _ => ?_) (fun c_9 => absurd c_9 (by decide))
  refine e_iload_n dX6_by_28 rfl (pn 29 rfl ?_)
  refine e_if_ne 53 dX6_by_29 (by decide) (fun _ => ?_) (fun c_9 => absurd c_9 (by decide))
  refine e_aload_n dX6_by_53 rfl (pn 54 rfl ?_)
  refine e_get dX6_by_54 fl_X6_30 h.1.1 rfl (pn 57 rfl ?_)
  refine e_aload_n dX6_by_57 rfl (pn 58 rfl ?_)
  refine e_get dX6_by_58 fl_X6_15 h.1.1 rfl (pn 61 rfl ?_)
  refine e_iload_n dX6_by_61 rfl (pn 62 rfl ?_)
  refine e_aald (s) dX6_by_62 h.1.2.1 rfl hs (by omega) (rf12_v hs) (pn 63 rfl ?_)
  refine e_iload_n dX6_by_63 rfl (pn 64 rfl ?_)
  refine e_aload_n dX6_by_64 rfl (pn 65 rfl ?_)
  refine e_get dX6_by_65 fl_X6_9 h.1.1 rfl (pn 68 rfl ?_)
  refine c_V1 dX6_by_68 ml_X6_162 mv_X3_byGaining (by decide) G hp.1 rfl rfl (Nat.le_of_ble_eq_true rfl) (pn 71 rfl ?_)
  exact e_lret dX6_by_71 rfl rfl rfl
theorem X_by2 {w : Wd} {S : St} (hS : SI S) (h : XI w S) {s n : Nat} (hs : s < 12) (hn : n ≤ 6) : ∃ w1, CW mX6_by [.ref 1, .int (nI s), .int (nI n), .int 0] w (some (.long (if (S.2.1 s).length < n then 0 else lN (dsN S.1 (S.2.1 s) ((S.2.1 s).length - n) 0)))) w1 ∧ FX w w1 ∧ XI w1 S := by
  obtain ⟨e, g, hp⟩ := h.2.2.1
  have L := l_by hp (h.1.2.2 s hs) (hS.w hs) hS.1 hn
  rw [lf_v hn] at L
  refine ⟨_, ?_, ag _ (by decide), h.s21 hS (lfO S.1 n (S.2.1 s) ((S.2.1 s).length + 1) g)⟩
  refine cw_of (M := mX6_by) fx_X6_by (lv := [.ref 1, .int (nI s), .int (nI n), .int 0]) rfl (Nat.le_of_ble_eq_true rfl) ?_
  refine e_iload_n dX6_by_0 rfl (pn 1 rfl ?_)
  refine c_S1 dX6_by_1 ml_X6_62 ms_X6_isRegister (by decide) (x_isR w _) rfl rfl (Nat.le_of_ble_eq_true rfl) (pn 4 rfl ?_)
  rw [iR1 hs]
  refine e_if_eq 24 dX6_by_4 (by decide) (fun c_9 => absurd c_9 (by decide)) (fun _ => pn 7 rfl ?_)
  refine e_iload_n dX6_by_7 rfl (pn 8 rfl ?_)
  refine e_if_lt 24 dX6_by_8 (by decide) (fun c_9 => absurd c_9 (nI_pos (by omega))) (fun _ => pn 11 rfl ?_)
  refine e_iload_n dX6_by_11 rfl (pn 12 rfl ?_)
  refine e_bi (6) dX6_by_12 (by decide) (pn 14 rfl ?_)
  refine e_icmp_gt 24 dX6_by_14 (by decide) (fun c_9 => absurd c_9 (nI_nlt (a := 6) hn (by omega))) (fun _ => pn 17 rfl ?_)
  refine e_iload_n dX6_by_17 rfl (pn 18 rfl ?_)
  refine c_S1 dX6_by_18 ml_X6_152 ms_X6_isEither (by decide) (x_isE w 0) rfl rfl (Nat.le_of_ble_eq_true rfl) (pn 21 rfl ?_)
  rw [if_pos (by decide)]
  refine e_if_ne 28 dX6_by_21 (by decide) (fun _ => ?_) (fun c_9 => absurd c_9 (by decide))
  refine e_iload_n dX6_by_28 rfl (pn 29 rfl ?_)
  refine e_if_ne 53 dX6_by_29 (by decide) (fun c_9 => absurd c_9 (by decide)) (fun _ => pn 32 rfl ?_)
  refine e_aload_n dX6_by_32 rfl (pn 33 rfl ?_)
  refine e_get dX6_by_33 fl_X6_30 h.1.1 rfl (pn 36 rfl ?_)
  refine e_aload_n dX6_by_36 rfl (pn 37 rfl ?_)
  refine e_get dX6_by_37 fl_X6_15 h.1.1 rfl (pn 40 rfl ?_)
  refine e_iload_n dX6_by_40 rfl (pn 41 rfl ?_)
  refine e_aald (s) dX6_by_41 h.1.2.1 rfl hs (by omega) (rf12_v hs) (pn 42 rfl ?_)
  refine e_iload_n dX6_by_42 rfl (pn 43 rfl ?_)
  refine e_aload_n dX6_by_43 rfl (pn 44 rfl ?_)
  refine e_get dX6_by_44 fl_X6_9 h.1.1 rfl (pn 47 rfl ?_)
  refine c_V1 dX6_by_47 ml_X6_158 mv_X3_byLosing (by decide) L hp.1 rfl rfl (Nat.le_of_ble_eq_true rfl) (pn 50 rfl ?_)
  refine e_goto 71 dX6_by_50 (by decide) ?_
  exact e_lret dX6_by_71 rfl rfl rfl
/-! common, commons, between -/
theorem XI.pH {w : Wd} {S : St} (hS : SI S) (h : XI w S) {t u : Nat} (ht : t < 12) (hu : u < 12) : ∃ (f : Nat → Int32) (g : Nat → Int64) (v : List Nat), pH w f (3 + t) (3 + u) (S.2.1 t) (S.2.1 u) ∧ w[24]? = some (aJ 625 g) ∧ w[25]? = some (rowW v) := by
  obtain ⟨f0, g0, v0, h1, h2, h3, h4⟩ := h.2.2.2.1
  exact ⟨f0, g0, v0, ⟨h1, h2, h.1.2.2 t ht, h.1.2.2 u hu, hS.w ht, hS.w hu⟩, h3, h4⟩
theorem X_com0 (w : Wd) {s t u : Int32} (h : ¬ (rOK s ∧ rOK t ∧ rOK u)) : CW mX6_common [.ref 1, .int s, .int t, .int u] w (some (.int (-1))) w := by
  refine cw_of (M := mX6_common) fx_X6_common (lv := [.ref 1, .int s, .int t, .int u, dmy]) rfl (Nat.le_of_ble_eq_true rfl) ?_
  refine e_iload_n dX6_common_0 rfl (pn 1 rfl ?_)
  refine c_S1 dX6_common_1 ml_X6_62 ms_X6_isRegister (by decide) (x_isR w s) rfl rfl (Nat.le_of_ble_eq_true rfl) (pn 4 rfl ?_)
  by_cases hs : rOK s
  · rw [iRp hs]
    refine e_if_eq 21 dX6_common_4 (by decide) (fun c_9 => absurd c_9 (by decide)) (fun _ => pn 7 rfl ?_)
    refine e_iload_n dX6_common_7 rfl (pn 8 rfl ?_)
    refine c_S1 dX6_common_8 ml_X6_62 ms_X6_isRegister (by decide) (x_isR w t) rfl rfl (Nat.le_of_ble_eq_true rfl) (pn 11 rfl ?_)
    by_cases ht : rOK t
    · rw [iRp ht]
      refine e_if_eq 21 dX6_common_11 (by decide) (fun c_9 => absurd c_9 (by decide)) (fun _ => pn 14 rfl ?_)
      refine e_iload_n dX6_common_14 rfl (pn 15 rfl ?_)
      refine c_S1 dX6_common_15 ml_X6_62 ms_X6_isRegister (by decide) (x_isR w u) rfl rfl (Nat.le_of_ble_eq_true rfl) (pn 18 rfl ?_)
      rw [iR0 (fun e => h ⟨hs, ht, e⟩)]
      refine e_if_ne 23 dX6_common_18 (by decide) (fun c_9 => absurd c_9 (by decide)) (fun _ => pn 21 rfl ?_)
      refine e_ic (-1) dX6_common_21 (by decide) (pn 22 rfl ?_)
      exact e_iret dX6_common_22 rfl rfl rfl
    · rw [iR0 ht]
      refine e_if_eq 21 dX6_common_11 (by decide) (fun _ => ?_) (fun c_9 => absurd (by decide) c_9)
      refine e_ic (-1) dX6_common_21 (by decide) (pn 22 rfl ?_)
      exact e_iret dX6_common_22 rfl rfl rfl
  · rw [iR0 hs]
    refine e_if_eq 21 dX6_common_4 (by decide) (fun _ => ?_) (fun c_9 => absurd (by decide) c_9)
    refine e_ic (-1) dX6_common_21 (by decide) (pn 22 rfl ?_)
    exact e_iret dX6_common_22 rfl rfl rfl
theorem X_com1 {w : Wd} {S : St} (hS : SI S) (h : XI w S) {s t u : Nat} (hs : s < 12) (ht : t < 12) (hu : u < 12) : ∃ w1, CW mX6_common [.ref 1, .int (nI s), .int (nI t), .int (nI u)] w (some (.int (nI (lcX (S.2.1 t) (S.2.1 u) 0 0)))) w1 ∧ FX w w1 ∧ XI w1 (sReg S s (fcO (S.2.1 t) (S.2.1 u) S.1 (lcX (S.2.1 t) (S.2.1 u) 0 0) 0 0 [])) := by
  obtain ⟨f, g, v, hp, h24, h25⟩ := h.pH hS ht hu
  have b1 := (hS.w ht).1
  have b2 := (hS.w hu).1
  have LG := p_lg hp
  have V0 : lgO (S.2.1 t) (S.2.1 u) ((S.2.1 t).length + 1) f 0 = nI (lcX (S.2.1 t) (S.2.1 u) 0 0) := lgO_v b1 b2 f (i := 0) (j := 0) (Nat.zero_le _) (Nat.zero_le _)
  rw [V0] at LG
  have hle := lcX_le (S.2.1 t) (S.2.1 u) 0 0
  have X1 := h.s23 hS (lgO (S.2.1 t) (S.2.1 u) ((S.2.1 t).length + 1) f)
  have hp1 := hp.up (lgO (S.2.1 t) (S.2.1 u) ((S.2.1 t).length + 1) f)
  have FL := p_fl hp1 (by omega) (by omega) (v := v) (gne (by decide) h25) hS.1 V0 (by omega)
  rw [flO_fc b1 b2 f S.1 _ 0 0 [] (by omega)] at FL
  generalize hv : fcO (S.2.1 t) (S.2.1 u) S.1 (lcX (S.2.1 t) (S.2.1 u) 0 0) 0 0 [] = y at *
  generalize lgO (S.2.1 t) (S.2.1 u) ((S.2.1 t).length + 1) f = F at *
  have X2 := X1.s25 hS y
  have X3 := X2.reg hS hs y
  have r25 : ((w.set 23 (aI 625 F)).set 25 (rowW y))[25]? = some (rowW y) := gse (gne (by decide) h25)
  refine ⟨_, ?_, (ag (aI 625 F) (by decide)).tr ((ag (rowW y) (by decide)).tr (ag (rowW y) (by omega))), X3⟩
  refine cw_of (M := mX6_common) fx_X6_common (lv := [.ref 1, .int (nI s), .int (nI t), .int (nI u), dmy]) rfl (Nat.le_of_ble_eq_true rfl) ?_
  refine e_iload_n dX6_common_0 rfl (pn 1 rfl ?_)
  refine c_S1 dX6_common_1 ml_X6_62 ms_X6_isRegister (by decide) (x_isR w _) rfl rfl (Nat.le_of_ble_eq_true rfl) (pn 4 rfl ?_)
  rw [iR1 hs]
  refine e_if_eq 21 dX6_common_4 (by decide) (fun c_9 => absurd c_9 (by decide)) (fun _ => pn 7 rfl ?_)
  refine e_iload_n dX6_common_7 rfl (pn 8 rfl ?_)
  refine c_S1 dX6_common_8 ml_X6_62 ms_X6_isRegister (by decide) (x_isR w _) rfl rfl (Nat.le_of_ble_eq_true rfl) (pn 11 rfl ?_)
  rw [iR1 ht]
  refine e_if_eq 21 dX6_common_11 (by decide) (fun c_9 => absurd c_9 (by decide)) (fun _ => pn 14 rfl ?_)
  refine e_iload_n dX6_common_14 rfl (pn 15 rfl ?_)
  refine c_S1 dX6_common_15 ml_X6_62 ms_X6_isRegister (by decide) (x_isR w _) rfl rfl (Nat.le_of_ble_eq_true rfl) (pn 18 rfl ?_)
  rw [iR1 hu]
  refine e_if_ne 23 dX6_common_18 (by decide) (fun _ => ?_) (fun c_9 => absurd c_9 (by decide))
  refine e_aload_n dX6_common_23 rfl (pn 24 rfl ?_)
  refine e_get dX6_common_24 fl_X6_37 h.1.1 rfl (pn 27 rfl ?_)
  refine e_aload_n dX6_common_27 rfl (pn 28 rfl ?_)
  refine e_get dX6_common_28 fl_X6_15 h.1.1 rfl (pn 31 rfl ?_)
  refine e_iload_n dX6_common_31 rfl (pn 32 rfl ?_)
  refine e_aald (t) dX6_common_32 h.1.2.1 rfl ht (by omega) (rf12_v ht) (pn 33 rfl ?_)
  refine e_aload_n dX6_common_33 rfl (pn 34 rfl ?_)
  refine e_get dX6_common_34 fl_X6_15 h.1.1 rfl (pn 37 rfl ?_)
  refine e_iload_n dX6_common_37 rfl (pn 38 rfl ?_)
  refine e_aald (u) dX6_common_38 h.1.2.1 rfl hu (by omega) (rf12_v hu) (pn 39 rfl ?_)
  refine c_V1 dX6_common_39 ml_X6_140 mv_X2_longest (by decide) LG hp.1 rfl rfl (Nat.le_of_ble_eq_true rfl) (pn 42 rfl ?_)
  refine s_i [_, _, _, _, _] dX6_common_42 (Nat.le_of_ble_eq_true rfl) rfl (pn 44 rfl ?_)
  refine e_aload_n dX6_common_44 rfl (pn 45 rfl ?_)
  refine e_get dX6_common_45 fl_X6_15 X1.1.1 rfl (pn 48 rfl ?_)
  refine e_iload_n dX6_common_48 rfl (pn 49 rfl ?_)
  refine e_aald (s) dX6_common_49 X1.1.2.1 rfl hs (by omega) (rf12_v hs) (pn 50 rfl ?_)
  refine e_aload_n dX6_common_50 rfl (pn 51 rfl ?_)
  refine e_get dX6_common_51 fl_X6_37 X1.1.1 rfl (pn 54 rfl ?_)
  refine e_aload_n dX6_common_54 rfl (pn 55 rfl ?_)
  refine e_get dX6_common_55 fl_X6_15 X1.1.1 rfl (pn 58 rfl ?_)
  refine e_iload_n dX6_common_58 rfl (pn 59 rfl ?_)
  refine e_aald (t) dX6_common_59 X1.1.2.1 rfl ht (by omega) (rf12_v ht) (pn 60 rfl ?_)
  refine e_aload_n dX6_common_60 rfl (pn 61 rfl ?_)
  refine e_get dX6_common_61 fl_X6_15 X1.1.1 rfl (pn 64 rfl ?_)
  refine e_iload_n dX6_common_64 rfl (pn 65 rfl ?_)
  refine e_aald (u) dX6_common_65 X1.1.2.1 rfl hu (by omega) (rf12_v hu) (pn 66 rfl ?_)
  refine e_aload_n dX6_common_66 rfl (pn 67 rfl ?_)
  refine e_get dX6_common_67 fl_X6_9 X1.1.1 rfl (pn 70 rfl ?_)
  refine c_V1 dX6_common_70 ml_X6_144 mv_X2_firstLongest (by decide) FL hp1.1 rfl rfl (Nat.le_of_ble_eq_true rfl) (pn 73 rfl ?_)
  refine c_V0 dX6_common_73 ml_X6_89 mv_X4_become (by decide) (r_become (X2.1.2.2 s hs) r25) (X2.1.2.2 s hs) rfl rfl (Nat.le_of_ble_eq_true rfl) (pn 76 rfl ?_)
  refine e_iload dX6_common_76 rfl (pn 78 rfl ?_)
  exact e_iret dX6_common_78 rfl rfl rfl
theorem X_cms0 (w : Wd) {s t : Int32} (h : ¬ (rOK s ∧ rOK t)) : CW mX6_commons [.ref 1, .int s, .int t] w (some (.long (-1))) w := by
  refine cw_of (M := mX6_commons) fx_X6_commons (lv := [.ref 1, .int s, .int t]) rfl (Nat.le_of_ble_eq_true rfl) ?_
  refine e_iload_n dX6_commons_0 rfl (pn 1 rfl ?_)
  refine c_S1 dX6_commons_1 ml_X6_62 ms_X6_isRegister (by decide) (x_isR w s) rfl rfl (Nat.le_of_ble_eq_true rfl) (pn 4 rfl ?_)
  rcases r2_cases h with hs | ⟨hs, ht⟩
  · rw [iR0 hs]
    refine e_if_eq 14 dX6_commons_4 (by decide) (fun _ => ?_) (fun c_9 => absurd (by decide) c_9)
    refine e_ldc2 dX6_commons_14 lk_X6_134 (pn 17 rfl ?_)
    exact e_lret dX6_commons_17 rfl rfl rfl
  · rw [iRp hs]
    refine e_if_eq 14 dX6_commons_4 (by decide) (fun c_9 => absurd c_9 (by decide)) (fun _ => pn 7 rfl ?_)
    refine e_iload_n dX6_commons_7 rfl (pn 8 rfl ?_)
    refine c_S1 dX6_commons_8 ml_X6_62 ms_X6_isRegister (by decide) (x_isR w t) rfl rfl (Nat.le_of_ble_eq_true rfl) (pn 11 rfl ?_)
    rw [iR0 ht]
    refine e_if_ne 18 dX6_commons_11 (by decide) (fun c_9 => absurd c_9 (by decide)) (fun _ => pn 14 rfl ?_)
    refine e_ldc2 dX6_commons_14 lk_X6_134 (pn 17 rfl ?_)
    exact e_lret dX6_commons_17 rfl rfl rfl
theorem X_cms1 {w : Wd} {S : St} (hS : SI S) (h : XI w S) {t u : Nat} (ht : t < 12) (hu : u < 12) (g2 : Nat → Int64) : ∃ w1, CW mX6_commons [.ref 1, .int (nI t), .int (nI u)] w (some (.long (tbO (fun g i j => cmS g (S.2.1 t) (S.2.1 u) i j S.1) (fun i j => 30 * i + j) ((S.2.1 u).length + 1) ((S.2.1 t).length + 1) g2 0))) w1 ∧ FX w w1 ∧ XI w1 S := by
  obtain ⟨f, g, v, hp, h24, h25⟩ := h.pH hS ht hu
  have b1 := (hS.w ht).1
  have b2 := (hS.w hu).1
  have LG := p_lg hp
  have X1 := h.s23 hS (lgO (S.2.1 t) (S.2.1 u) ((S.2.1 t).length + 1) f)
  have hp1 := hp.up (lgO (S.2.1 t) (S.2.1 u) ((S.2.1 t).length + 1) f)
  have HM := p_hm (g := g) ⟨hp1, gne (by decide) h24⟩ hS.1
  rw [hm_cm b1 b2 f S.1 g g2] at HM
  refine ⟨_, ?_, (ag (aI 625 (lgO (S.2.1 t) (S.2.1 u) ((S.2.1 t).length + 1) f)) (by decide)).tr (ag (aJ 625 (hmO (lgO (S.2.1 t) (S.2.1 u) ((S.2.1 t).length + 1) f) S.1 (S.2.1 t) (S.2.1 u) ((S.2.1 t).length + 1) g)) (by decide)), X1.s24 hS _⟩
  refine cw_of (M := mX6_commons) fx_X6_commons (lv := [.ref 1, .int (nI t), .int (nI u)]) rfl (Nat.le_of_ble_eq_true rfl) ?_
  refine e_iload_n dX6_commons_0 rfl (pn 1 rfl ?_)
  refine c_S1 dX6_commons_1 ml_X6_62 ms_X6_isRegister (by decide) (x_isR w _) rfl rfl (Nat.le_of_ble_eq_true rfl) (pn 4 rfl ?_)
  rw [iR1 ht]
  refine e_if_eq 14 dX6_commons_4 (by decide) (fun c_9 => absurd c_9 (by decide)) (fun _ => pn 7 rfl ?_)
  refine e_iload_n dX6_commons_7 rfl (pn 8 rfl ?_)
  refine c_S1 dX6_commons_8 ml_X6_62 ms_X6_isRegister (by decide) (x_isR w _) rfl rfl (Nat.le_of_ble_eq_true rfl) (pn 11 rfl ?_)
  rw [iR1 hu]
  refine e_if_ne 18 dX6_commons_11 (by decide) (fun _ => ?_) (fun c_9 => absurd c_9 (by decide))
  refine e_aload_n dX6_commons_18 rfl (pn 19 rfl ?_)
  refine e_get dX6_commons_19 fl_X6_37 h.1.1 rfl (pn 22 rfl ?_)
  refine e_aload_n dX6_commons_22 rfl (pn 23 rfl ?_)
  refine e_get dX6_commons_23 fl_X6_15 h.1.1 rfl (pn 26 rfl ?_)
  refine e_iload_n dX6_commons_26 rfl (pn 27 rfl ?_)
  refine e_aald (t) dX6_commons_27 h.1.2.1 rfl ht (by omega) (rf12_v ht) (pn 28 rfl ?_)
  refine e_aload_n dX6_commons_28 rfl (pn 29 rfl ?_)
  refine e_get dX6_commons_29 fl_X6_15 h.1.1 rfl (pn 32 rfl ?_)
  refine e_iload_n dX6_commons_32 rfl (pn 33 rfl ?_)
  refine e_aald (u) dX6_commons_33 h.1.2.1 rfl hu (by omega) (rf12_v hu) (pn 34 rfl ?_)
  refine c_V1 dX6_commons_34 ml_X6_140 mv_X2_longest (by decide) LG hp.1 rfl rfl (Nat.le_of_ble_eq_true rfl) (pn 37 rfl ?_)
  refine e_pop dX6_commons_37 rfl (pn 38 rfl ?_)
  refine e_aload_n dX6_commons_38 rfl (pn 39 rfl ?_)
  refine e_get dX6_commons_39 fl_X6_37 X1.1.1 rfl (pn 42 rfl ?_)
  refine e_aload_n dX6_commons_42 rfl (pn 43 rfl ?_)
  refine e_get dX6_commons_43 fl_X6_15 X1.1.1 rfl (pn 46 rfl ?_)
  refine e_iload_n dX6_commons_46 rfl (pn 47 rfl ?_)
  refine e_aald (t) dX6_commons_47 X1.1.2.1 rfl ht (by omega) (rf12_v ht) (pn 48 rfl ?_)
  refine e_aload_n dX6_commons_48 rfl (pn 49 rfl ?_)
  refine e_get dX6_commons_49 fl_X6_15 X1.1.1 rfl (pn 52 rfl ?_)
  refine e_iload_n dX6_commons_52 rfl (pn 53 rfl ?_)
  refine e_aald (u) dX6_commons_53 X1.1.2.1 rfl hu (by omega) (rf12_v hu) (pn 54 rfl ?_)
  refine e_aload_n dX6_commons_54 rfl (pn 55 rfl ?_)
  refine e_get dX6_commons_55 fl_X6_9 X1.1.1 rfl (pn 58 rfl ?_)
  refine c_V1 dX6_commons_58 ml_X6_148 mv_X2_howManyLongest (by decide) HM hp1.1 rfl rfl (Nat.le_of_ble_eq_true rfl) (pn 61 rfl ?_)
  exact e_lret dX6_commons_61 rfl rfl rfl
theorem X_betw0 (w : Wd) {s t v : Int32} (h : ¬ (rOK s ∧ rOK t ∧ (0 ≤ v ∧ v ≤ 1))) : CW mX6_between [.ref 1, .int s, .int t, .int v] w (some (.int (-1))) w := by
  refine cw_of (M := mX6_between) fx_X6_between (lv := [.ref 1, .int s, .int t, .int v]) rfl (Nat.le_of_ble_eq_true rfl) ?_
  refine e_iload_n dX6_between_0 rfl (pn 1 rfl ?_)
  refine c_S1 dX6_between_1 ml_X6_62 ms_X6_isRegister (by decide) (x_isR w s) rfl rfl (Nat.le_of_ble_eq_true rfl) (pn 4 rfl ?_)
  by_cases hs : rOK s
  · rw [iRp hs]
    refine e_if_eq 21 dX6_between_4 (by decide) (fun c_9 => absurd c_9 (by decide)) (fun _ => pn 7 rfl ?_)
    refine e_iload_n dX6_between_7 rfl (pn 8 rfl ?_)
    refine c_S1 dX6_between_8 ml_X6_62 ms_X6_isRegister (by decide) (x_isR w t) rfl rfl (Nat.le_of_ble_eq_true rfl) (pn 11 rfl ?_)
    by_cases ht : rOK t
    · rw [iRp ht]
      refine e_if_eq 21 dX6_between_11 (by decide) (fun c_9 => absurd c_9 (by decide)) (fun _ => pn 14 rfl ?_)
      refine e_iload_n dX6_between_14 rfl (pn 15 rfl ?_)
      refine c_S1 dX6_between_15 ml_X6_152 ms_X6_isEither (by decide) (x_isE w v) rfl rfl (Nat.le_of_ble_eq_true rfl) (pn 18 rfl ?_)
      rw [if_neg (fun e => h ⟨hs, ht, e⟩)]
      refine e_if_ne 23 dX6_between_18 (by decide) (fun c_9 => absurd c_9 (by decide)) (fun _ => pn 21 rfl ?_)
      refine e_ic (-1) dX6_between_21 (by decide) (pn 22 rfl ?_)
      exact e_iret dX6_between_22 rfl rfl rfl
    · rw [iR0 ht]
      refine e_if_eq 21 dX6_between_11 (by decide) (fun _ => ?_) (fun c_9 => absurd (by decide) c_9)
      refine e_ic (-1) dX6_between_21 (by decide) (pn 22 rfl ?_)
      exact e_iret dX6_between_22 rfl rfl rfl
  · rw [iR0 hs]
    refine e_if_eq 21 dX6_between_4 (by decide) (fun _ => ?_) (fun c_9 => absurd (by decide) c_9)
    refine e_ic (-1) dX6_between_21 (by decide) (pn 22 rfl ?_)
    exact e_iret dX6_between_22 rfl rfl rfl
theorem X_betw1 {w : Wd} {S : St} (hS : SI S) (h : XI w S) {t u : Nat} (ht : t < 12) (hu : u < 12) : ∃ w1, CW mX6_between [.ref 1, .int (nI t), .int (nI u), .int 0] w (some (.int (nI (ed (S.2.1 t) (S.2.1 u))))) w1 ∧ FX w w1 ∧ XI w1 S := by
  obtain ⟨f, g, v, hp, h24, h25⟩ := h.pH hS ht hu
  have ED := p_ed hp
  rw [edO_v (hS.w ht).1 (hS.w hu).1 f] at ED
  refine ⟨_, ?_, ag _ (by decide), h.s23 hS (edO (S.2.1 t) (S.2.1 u) ((S.2.1 t).length + 1) f)⟩
  refine cw_of (M := mX6_between) fx_X6_between (lv := [.ref 1, .int (nI t), .int (nI u), .int 0]) rfl (Nat.le_of_ble_eq_true rfl) ?_
  refine e_iload_n dX6_between_0 rfl (pn 1 rfl ?_)
  refine c_S1 dX6_between_1 ml_X6_62 ms_X6_isRegister (by decide) (x_isR w _) rfl rfl (Nat.le_of_ble_eq_true rfl) (pn 4 rfl ?_)
  rw [iR1 ht]
  refine e_if_eq 21 dX6_between_4 (by decide) (fun c_9 => absurd c_9 (by decide)) (fun _ => pn 7 rfl ?_)
  refine e_iload_n dX6_between_7 rfl (pn 8 rfl ?_)
  refine c_S1 dX6_between_8 ml_X6_62 ms_X6_isRegister (by decide) (x_isR w _) rfl rfl (Nat.le_of_ble_eq_true rfl) (pn 11 rfl ?_)
  rw [iR1 hu]
  refine e_if_eq 21 dX6_between_11 (by decide) (fun c_9 => absurd c_9 (by decide)) (fun _ => pn 14 rfl ?_)
  refine e_iload_n dX6_between_14 rfl (pn 15 rfl ?_)
  refine c_S1 dX6_between_15 ml_X6_152 ms_X6_isEither (by decide) (x_isE w 0) rfl rfl (Nat.le_of_ble_eq_true rfl) (pn 18 rfl ?_)
  rw [if_pos (by decide)]
  refine e_if_ne 23 dX6_between_18 (by decide) (fun _ => ?_) (fun c_9 => absurd c_9 (by decide))
  refine e_iload_n dX6_between_23 rfl (pn 24 rfl ?_)
  refine e_if_ne 47 dX6_between_24 (by decide) (fun c_9 => absurd c_9 (by decide)) (fun _ => pn 27 rfl ?_)
  refine e_aload_n dX6_between_27 rfl (pn 28 rfl ?_)
  refine e_get dX6_between_28 fl_X6_37 h.1.1 rfl (pn 31 rfl ?_)
  refine e_aload_n dX6_between_31 rfl (pn 32 rfl ?_)
  refine e_get dX6_between_32 fl_X6_15 h.1.1 rfl (pn 35 rfl ?_)
  refine e_iload_n dX6_between_35 rfl (pn 36 rfl ?_)
  refine e_aald (t) dX6_between_36 h.1.2.1 rfl ht (by omega) (rf12_v ht) (pn 37 rfl ?_)
  refine e_aload_n dX6_between_37 rfl (pn 38 rfl ?_)
  refine e_get dX6_between_38 fl_X6_15 h.1.1 rfl (pn 41 rfl ?_)
  refine e_iload_n dX6_between_41 rfl (pn 42 rfl ?_)
  refine e_aald (u) dX6_between_42 h.1.2.1 rfl hu (by omega) (rf12_v hu) (pn 43 rfl ?_)
  refine c_V1 dX6_between_43 ml_X6_155 mv_X2_edits (by decide) ED hp.1 rfl rfl (Nat.le_of_ble_eq_true rfl) (pn 46 rfl ?_)
  exact e_iret dX6_between_46 rfl rfl rfl
theorem X_betw2 {w : Wd} {S : St} (hS : SI S) (h : XI w S) {t u : Nat} (ht : t < 12) (hu : u < 12) : ∃ w1, CW mX6_between [.ref 1, .int (nI t), .int (nI u), .int 1] w (some (.int (nI (S.2.1 t).length + nI (S.2.1 u).length - nI (lcX (S.2.1 t) (S.2.1 u) 0 0)))) w1 ∧ FX w w1 ∧ XI w1 S := by
  obtain ⟨f, g, v, hp, h24, h25⟩ := h.pH hS ht hu
  have LG := p_lg hp
  have V0 : lgO (S.2.1 t) (S.2.1 u) ((S.2.1 t).length + 1) f 0 = nI (lcX (S.2.1 t) (S.2.1 u) 0 0) := lgO_v (hS.w ht).1 (hS.w hu).1 f (i := 0) (j := 0) (Nat.zero_le _) (Nat.zero_le _)
  rw [V0] at LG
  refine ⟨_, ?_, ag _ (by decide), h.s23 hS (lgO (S.2.1 t) (S.2.1 u) ((S.2.1 t).length + 1) f)⟩
  refine cw_of (M := mX6_between) fx_X6_between (lv := [.ref 1, .int (nI t), .int (nI u), .int 1]) rfl (Nat.le_of_ble_eq_true rfl) ?_
  refine e_iload_n dX6_between_0 rfl (pn 1 rfl ?_)
  refine c_S1 dX6_between_1 ml_X6_62 ms_X6_isRegister (by decide) (x_isR w _) rfl rfl (Nat.le_of_ble_eq_true rfl) (pn 4 rfl ?_)
  rw [iR1 ht]
  refine e_if_eq 21 dX6_between_4 (by decide) (fun c_9 => absurd c_9 (by decide)) (fun _ => pn 7 rfl ?_)
  refine e_iload_n dX6_between_7 rfl (pn 8 rfl ?_)
  refine c_S1 dX6_between_8 ml_X6_62 ms_X6_isRegister (by decide) (x_isR w _) rfl rfl (Nat.le_of_ble_eq_true rfl) (pn 11 rfl ?_)
  rw [iR1 hu]
  refine e_if_eq 21 dX6_between_11 (by decide) (fun c_9 => absurd c_9 (by decide)) (fun _ => pn 14 rfl ?_)
  refine e_iload_n dX6_between_14 rfl (pn 15 rfl ?_)
  refine c_S1 dX6_between_15 ml_X6_152 ms_X6_isEither (by decide) (x_isE w 1) rfl rfl (Nat.le_of_ble_eq_true rfl) (pn 18 rfl ?_)
  rw [if_pos (by decide)]
  refine e_if_ne 23 dX6_between_18 (by decide) (fun _ => ?_) (fun c_9 => absurd c_9 (by decide))
  refine e_iload_n dX6_between_23 rfl (pn 24 rfl ?_)
  refine e_if_ne 47 dX6_between_24 (by decide) (fun _ => ?_) (fun c_9 => absurd c_9 (by decide))
  refine e_aload_n dX6_between_47 rfl (pn 48 rfl ?_)
  refine e_get dX6_between_48 fl_X6_15 h.1.1 rfl (pn 51 rfl ?_)
  refine e_iload_n dX6_between_51 rfl (pn 52 rfl ?_)
  refine e_aald (t) dX6_between_52 h.1.2.1 rfl ht (by omega) (rf12_v ht) (pn 53 rfl ?_)
  refine e_get dX6_between_53 fl_X6_74 (h.1.2.2 t ht) rfl (pn 56 rfl ?_)
  refine e_aload_n dX6_between_56 rfl (pn 57 rfl ?_)
  refine e_get dX6_between_57 fl_X6_15 h.1.1 rfl (pn 60 rfl ?_)
  refine e_iload_n dX6_between_60 rfl (pn 61 rfl ?_)
  refine e_aald (u) dX6_between_61 h.1.2.1 rfl hu (by omega) (rf12_v hu) (pn 62 rfl ?_)
  refine e_get dX6_between_62 fl_X6_74 (h.1.2.2 u hu) rfl (pn 65 rfl ?_)
  refine e_iadd dX6_between_65 (pn 66 rfl ?_)
  refine e_aload_n dX6_between_66 rfl (pn 67 rfl ?_)
  refine e_get dX6_between_67 fl_X6_37 h.1.1 rfl (pn 70 rfl ?_)
  refine e_aload_n dX6_between_70 rfl (pn 71 rfl ?_)
  refine e_get dX6_between_71 fl_X6_15 h.1.1 rfl (pn 74 rfl ?_)
  refine e_iload_n dX6_between_74 rfl (pn 75 rfl ?_)
  refine e_aald (t) dX6_between_75 h.1.2.1 rfl ht (by omega) (rf12_v ht) (pn 76 rfl ?_)
  refine e_aload_n dX6_between_76 rfl (pn 77 rfl ?_)
  refine e_get dX6_between_77 fl_X6_15 h.1.1 rfl (pn 80 rfl ?_)
  refine e_iload_n dX6_between_80 rfl (pn 81 rfl ?_)
  refine e_aald (u) dX6_between_81 h.1.2.1 rfl hu (by omega) (rf12_v hu) (pn 82 rfl ?_)
  refine c_V1 dX6_between_82 ml_X6_140 mv_X2_longest (by decide) LG hp.1 rfl rfl (Nat.le_of_ble_eq_true rfl) (pn 85 rfl ?_)
  refine e_isub dX6_between_85 (pn 86 rfl ?_)
  exact e_iret dX6_between_86 rfl rfl rfl
/-! line, seed, send -/
theorem XI.inL {w : Wd} {S S2 : St} (hS : SI S) (h : XI w S) {a : Nat} {e0 c : Cel} (ha : 39 ≤ a ∧ a ≤ 40) (h0 : w[a]? = some e0) (hz : szE c = szE e0) (e : S2.1 = S.1 ∧ S2.2.1 = S.2.1 ∧ S2.2.2.1 = S.2.2.1 ∧ S2.2.2.2.1 = S.2.2.2.1) (hL : XL (w.set a c) S2) : XI (w.set a c) S2 := by
  obtain ⟨q, reg, cd, tr, rest⟩ := S2
  obtain ⟨e1, e2, e3, e4⟩ := e
  have e1 : q = S.1 := e1
  have e2 : reg = S.2.1 := e2
  have e3 : cd = S.2.2.1 := e3
  have e4 : tr = S.2.2.2.1 := e4
  subst e1; subst e2; subst e3; subst e4
  exact ⟨h.1.fr (ag c (by omega)), h.2.1.set (by omega) h0 hz, h.2.2.1.fr (ag c (by omega)), h.2.2.2.1.fr (ag c (by omega)), h.2.2.2.2.1.fr hS.2.2.2.1.1 (ag c (by omega)), hL⟩
theorem XI.s40 {w : Wd} {S : St} (hS : SI S) (h : XI w S) (v : List Nat) : XI (w.set 40 (rowW v)) S := by
  obtain ⟨h1, v0, h2⟩ := h.2.2.2.2.2
  exact h.inL hS (by decide) h2 rfl ⟨rfl, rfl, rfl, rfl⟩ ⟨gne (by decide) h1, v, gse h2⟩
theorem X_line0 (w : Wd) {a b c : Int32} (h : ¬ lOK a b c) : CW mX6_line [.ref 1, .int a, .int b, .int c] w (some (.int (-1))) w := by
  refine cw_of (M := mX6_line) fx_X6_line (lv := [.ref 1, .int a, .int b, .int c]) rfl (Nat.le_of_ble_eq_true rfl) ?_
  refine e_iload_n dX6_line_0 rfl (pn 1 rfl ?_)
  refine c_S1 dX6_line_1 ml_X6_179 ms_X6_isChance (by decide) (x_isC w a) rfl rfl (Nat.le_of_ble_eq_true rfl) (pn 4 rfl ?_)
  by_cases ha : 0 ≤ a ∧ a ≤ 64
  · rw [if_pos ha]
    refine e_if_eq 31 dX6_line_4 (by decide) (fun c_9 => absurd c_9 (by decide)) (fun _ => pn 7 rfl ?_)
    refine e_iload_n dX6_line_7 rfl (pn 8 rfl ?_)
    refine c_S1 dX6_line_8 ml_X6_179 ms_X6_isChance (by decide) (x_isC w b) rfl rfl (Nat.le_of_ble_eq_true rfl) (pn 11 rfl ?_)
    by_cases hb : 0 ≤ b ∧ b ≤ 64
    · rw [if_pos hb]
      refine e_if_eq 31 dX6_line_11 (by decide) (fun c_9 => absurd c_9 (by decide)) (fun _ => pn 14 rfl ?_)
      refine e_iload_n dX6_line_14 rfl (pn 15 rfl ?_)
      refine c_S1 dX6_line_15 ml_X6_179 ms_X6_isChance (by decide) (x_isC w c) rfl rfl (Nat.le_of_ble_eq_true rfl) (pn 18 rfl ?_)
      by_cases hc : 0 ≤ c ∧ c ≤ 64
      · rw [if_pos hc]
        refine e_if_eq 31 dX6_line_18 (by decide) (fun c_9 => absurd c_9 (by decide)) (fun _ => pn 21 rfl ?_)
        refine e_iload_n dX6_line_21 rfl (pn 22 rfl ?_)
        refine e_iload_n dX6_line_22 rfl (pn 23 rfl ?_)
        refine e_iadd dX6_line_23 (pn 24 rfl ?_)
        refine e_iload_n dX6_line_24 rfl (pn 25 rfl ?_)
        refine e_iadd dX6_line_25 (pn 26 rfl ?_)
        refine e_bi (64) dX6_line_26 (by decide) (pn 28 rfl ?_)
        refine e_icmp_le 33 dX6_line_28 (by decide) (fun c_9 => absurd c_9 (fun e => h ⟨ha, hb, hc, e⟩)) (fun _ => pn 31 rfl ?_)
        refine e_ic (-1) dX6_line_31 (by decide) (pn 32 rfl ?_)
        exact e_iret dX6_line_32 rfl rfl rfl
      · rw [if_neg hc]
        refine e_if_eq 31 dX6_line_18 (by decide) (fun _ => ?_) (fun c_9 => absurd (by decide) c_9)
        refine e_ic (-1) dX6_line_31 (by decide) (pn 32 rfl ?_)
        exact e_iret dX6_line_32 rfl rfl rfl
    · rw [if_neg hb]
      refine e_if_eq 31 dX6_line_11 (by decide) (fun _ => ?_) (fun c_9 => absurd (by decide) c_9)
      refine e_ic (-1) dX6_line_31 (by decide) (pn 32 rfl ?_)
      exact e_iret dX6_line_32 rfl rfl rfl
  · rw [if_neg ha]
    refine e_if_eq 31 dX6_line_4 (by decide) (fun _ => ?_) (fun c_9 => absurd (by decide) c_9)
    refine e_ic (-1) dX6_line_31 (by decide) (pn 32 rfl ?_)
    exact e_iret dX6_line_32 rfl rfl rfl
theorem X_line1 {w : Wd} {S : St} (hS : SI S) (h : XI w S) {a b c : Nat} (hl : a + b + c ≤ 64) : ∃ w1, CW mX6_line [.ref 1, .int (nI a), .int (nI b), .int (nI c)] w (some (.int 0)) w1 ∧ FX w w1 ∧ XI w1 (sLn S (a, b, c)) := by
  obtain ⟨l1, l2, l3, l4⟩ := n_lOK hl
  obtain ⟨h39, v0, h40⟩ := h.2.2.2.2.2
  refine ⟨_, ?_, ag _ (by decide), h.inL (S2 := sLn S (a, b, c)) (c := lnF a (a + b) (a + b + c) S.2.2.2.2.2.1) hS (by decide) h39 rfl ⟨rfl, rfl, rfl, rfl⟩ ⟨gse h39, v0, gne (by decide) h40⟩⟩
  refine cw_of (M := mX6_line) fx_X6_line (lv := [.ref 1, .int (nI a), .int (nI b), .int (nI c)]) rfl (Nat.le_of_ble_eq_true rfl) ?_
  refine e_iload_n dX6_line_0 rfl (pn 1 rfl ?_)
  refine c_S1 dX6_line_1 ml_X6_179 ms_X6_isChance (by decide) (x_isC w _) rfl rfl (Nat.le_of_ble_eq_true rfl) (pn 4 rfl ?_)
  rw [if_pos l1]
  refine e_if_eq 31 dX6_line_4 (by decide) (fun c_9 => absurd c_9 (by decide)) (fun _ => pn 7 rfl ?_)
  refine e_iload_n dX6_line_7 rfl (pn 8 rfl ?_)
  refine c_S1 dX6_line_8 ml_X6_179 ms_X6_isChance (by decide) (x_isC w _) rfl rfl (Nat.le_of_ble_eq_true rfl) (pn 11 rfl ?_)
  rw [if_pos l2]
  refine e_if_eq 31 dX6_line_11 (by decide) (fun c_9 => absurd c_9 (by decide)) (fun _ => pn 14 rfl ?_)
  refine e_iload_n dX6_line_14 rfl (pn 15 rfl ?_)
  refine c_S1 dX6_line_15 ml_X6_179 ms_X6_isChance (by decide) (x_isC w _) rfl rfl (Nat.le_of_ble_eq_true rfl) (pn 18 rfl ?_)
  rw [if_pos l3]
  refine e_if_eq 31 dX6_line_18 (by decide) (fun c_9 => absurd c_9 (by decide)) (fun _ => pn 21 rfl ?_)
  refine e_iload_n dX6_line_21 rfl (pn 22 rfl ?_)
  refine e_iload_n dX6_line_22 rfl (pn 23 rfl ?_)
  refine e_iadd dX6_line_23 (pn 24 rfl ?_)
  refine e_iload_n dX6_line_24 rfl (pn 25 rfl ?_)
  refine e_iadd dX6_line_25 (pn 26 rfl ?_)
  refine e_bi (64) dX6_line_26 (by decide) (pn 28 rfl ?_)
  refine e_icmp_le 33 dX6_line_28 (by decide) (fun _ => ?_) (fun c_9 => absurd l4 c_9)
  refine e_aload_n dX6_line_33 rfl (pn 34 rfl ?_)
  refine e_get dX6_line_34 fl_X6_51 h.1.1 rfl (pn 37 rfl ?_)
  refine e_iload_n dX6_line_37 rfl (pn 38 rfl ?_)
  refine e_iload_n dX6_line_38 rfl (pn 39 rfl ?_)
  refine e_iload_n dX6_line_39 rfl (pn 40 rfl ?_)
  refine c_V0 dX6_line_40 ml_X6_182 mv_X1_tell (by decide) (k_tell h39 a b c) h39 rfl rfl (Nat.le_of_ble_eq_true rfl) (pn 43 rfl ?_)
  refine e_ic (0) dX6_line_43 (by decide) (pn 44 rfl ?_)
  exact e_iret dX6_line_44 rfl rfl rfl
theorem X_seed0 (w : Wd) {v : Int64} (h : v < 0) : CW mX6_seed [.ref 1, .long v] w (some (.int (-1))) w := by
  refine cw_of (M := mX6_seed) fx_X6_seed (lv := [.ref 1, .long v, dmy]) rfl (Nat.le_of_ble_eq_true rfl) ?_
  refine e_lload_n dX6_seed_0 rfl (pn 1 rfl ?_)
  refine e_lc (0) dX6_seed_1 (by decide) (pn 2 rfl ?_)
  refine e_lcmp dX6_seed_2 (pn 3 rfl ?_)
  refine e_if_ge 8 dX6_seed_3 (by decide) (fun c_9 => absurd c_9 (cmp_nge h)) (fun _ => pn 6 rfl ?_)
  refine e_ic (-1) dX6_seed_6 (by decide) (pn 7 rfl ?_)
  exact e_iret dX6_seed_7 rfl rfl rfl
theorem X_seed1 {w : Wd} {S : St} (hS : SI S) (h : XI w S) {v : Int64} (v2 : Int64) (hv : ¬ v < 0) : ∃ w1, CW mX6_seed [.ref 1, .long v] w (some (.int 0)) w1 ∧ FX w w1 ∧ XI w1 (sSd S (v, v2)) := by
  obtain ⟨h39, v0, h40⟩ := h.2.2.2.2.2
  refine ⟨_, ?_, ag _ (by decide), h.inL (S2 := sSd S (v, v2)) (c := lnF S.2.2.2.2.1.1 (S.2.2.2.2.1.1 + S.2.2.2.2.1.2.1) (S.2.2.2.2.1.1 + S.2.2.2.2.1.2.1 + S.2.2.2.2.1.2.2) v) hS (by decide) h39 rfl ⟨rfl, rfl, rfl, rfl⟩ ⟨gse h39, v0, gne (by decide) h40⟩⟩
  refine cw_of (M := mX6_seed) fx_X6_seed (lv := [.ref 1, .long v, dmy]) rfl (Nat.le_of_ble_eq_true rfl) ?_
  refine e_lload_n dX6_seed_0 rfl (pn 1 rfl ?_)
  refine e_lc (0) dX6_seed_1 (by decide) (pn 2 rfl ?_)
  refine e_lcmp dX6_seed_2 (pn 3 rfl ?_)
  refine e_if_ge 8 dX6_seed_3 (by decide) (fun _ => ?_) (fun c_9 => absurd (cmp_ge0 hv) c_9)
  refine e_aload_n dX6_seed_8 rfl (pn 9 rfl ?_)
  refine e_get dX6_seed_9 fl_X6_51 h.1.1 rfl (pn 12 rfl ?_)
  refine e_lload_n dX6_seed_12 rfl (pn 13 rfl ?_)
  refine e_put dX6_seed_13 fp_X6_185 h39 rfl (Nat.le_of_ble_eq_true rfl) (pn 16 rfl ?_)
  refine e_ic (0) dX6_seed_16 (by decide) (pn 17 rfl ?_)
  exact e_iret dX6_seed_17 rfl rfl rfl
theorem ln_ex0 (g : Nat → Nat → List Nat → Bool × List Nat) (v' : Int64 → Nat) (nx : Int64 → Int64) (u : List Nat) : ∃ st : LnT, ∀ i now c, (st i now c).1 = (g (u.getD i 0) (v' (nx now)) c).1 ∧ (st i now c).2.1 = nx now ∧ (st i now c).2.2 = (g (u.getD i 0) (v' (nx now)) c).2 := ⟨fun i now c => ((g (u.getD i 0) (v' (nx now)) c).1, nx now, (g (u.getD i 0) (v' (nx now)) c).2), fun _ _ _ => ⟨rfl, rfl, rfl⟩⟩
theorem ln_ex (bl bg bt q : Nat) (u : List Nat) : ∃ st, lnS bl bg bt q u st := by
  unfold lnS
  exact ln_ex0 (clW bl bg bt q) vN nxS u
theorem cl_sn {lo ga tu q l v : Nat} (c : List Nat) : (c.length + (snL lo ga tu q l v).length ≤ 24 → clW lo (lo + ga) (lo + ga + tu) q l v c = (true, c ++ snL lo ga tu q l v)) ∧ (24 < c.length + (snL lo ga tu q l v).length → c.length ≤ 24 → (clW lo (lo + ga) (lo + ga + tu) q l v c).1 = false) := by
  unfold clW snL
  by_cases h1 : v < lo
  · rw [if_pos h1, if_pos h1]
    exact ⟨fun _ => by rw [List.append_nil], fun h2 h3 => by simp at h2; omega⟩
  · rw [if_neg h1, if_neg h1]
    by_cases h2 : v < lo + ga
    · rw [if_pos h2, if_pos h2]
      constructor
      · intro h3
        have h3 : c.length + 2 ≤ 24 := h3
        have e1 : tuW c (v % q) = (true, c ++ [v % q]) := by unfold tuW; rw [if_pos (by omega)]
        rw [e1]
        show (if true = true then tuW (c ++ [v % q]) l else _) = _
        rw [if_pos rfl]
        unfold tuW
        rw [if_pos (by simp; omega), List.append_assoc]
        rfl
      · intro h3 h4
        have h3 : 24 < c.length + 2 := h3
        by_cases h5 : c.length < 24
        · have e1 : tuW c (v % q) = (true, c ++ [v % q]) := by unfold tuW; rw [if_pos h5]
          rw [e1]
          show (if true = true then tuW (c ++ [v % q]) l else _).1 = _
          rw [if_pos rfl]
          unfold tuW
          rw [if_neg (by simp; omega)]
        · have e1 : tuW c (v % q) = (false, c) := by unfold tuW; rw [if_neg h5]
          rw [e1]
          rfl
    · rw [if_neg h2, if_neg h2]
      unfold tuW
      constructor
      · intro h3
        have h3 : c.length + 1 ≤ 24 := h3
        rw [if_pos (by omega)]
      · intro h3 h4
        have h3 : 24 < c.length + 1 := h3
        rw [if_neg (by omega)]
theorem snF_mono {lo ga tu q : Nat} {u : List Nat} : ∀ (k i : Nat) (now : Int64) (acc : List Nat), acc.length ≤ (snF lo ga tu q u k i now acc).2.length
  | 0, i, now, acc => Nat.le_refl _
  | k + 1, i, now, acc => by
    rw [snF]
    have := snF_mono (lo := lo) (ga := ga) (tu := tu) (q := q) (u := u) k (i + 1) (nxS now) (acc ++ snL lo ga tu q (u.getD i 0) (vN (nxS now)))
    rw [List.length_append] at this
    omega
theorem cr_sn {lo ga tu q : Nat} {u : List Nat} {st : LnT} (hs : lnS lo (lo + ga) (lo + ga + tu) q u st) : ∀ (k i : Nat) (now : Int64) (c : List Nat), c.length ≤ 24 → ((snF lo ga tu q u k i now c).2.length ≤ 24 → crF st k i now c = (true, snF lo ga tu q u k i now c)) ∧ (24 < (snF lo ga tu q u k i now c).2.length → (crF st k i now c).1 = false)
  | 0, i, now, c, hc => ⟨fun _ => rfl, fun h => by have h : 24 < c.length := h; omega⟩
  | k + 1, i, now, c, hc => by
    obtain ⟨s1, s2, s3⟩ := hs i now c
    obtain ⟨c1, c2⟩ := cl_sn (lo := lo) (ga := ga) (tu := tu) (q := q) (l := u.getD i 0) (v := vN (nxS now)) c
    have mono := snF_mono (lo := lo) (ga := ga) (tu := tu) (q := q) (u := u) k (i + 1) (nxS now) (c ++ snL lo ga tu q (u.getD i 0) (vN (nxS now)))
    rw [List.length_append] at mono
    rw [crF, snF]
    by_cases h : c.length + (snL lo ga tu q (u.getD i 0) (vN (nxS now))).length ≤ 24
    · rw [c1 h] at s1 s3
      rw [if_pos s1, s2, s3]
      exact cr_sn hs k (i + 1) (nxS now) _ (by rw [List.length_append]; exact h)
    · have s4 := c2 (by omega) hc
      rw [s4] at s1
      rw [if_neg (by rw [s1]; decide)]
      exact ⟨fun h9 => by omega, fun _ => rfl⟩
theorem X_send0 (w : Wd) {s t : Int32} (h : ¬ (rOK s ∧ rOK t)) : CW mX6_send [.ref 1, .int s, .int t] w (some (.int (-1))) w := by
  refine cw_of (M := mX6_send) fx_X6_send (lv := [.ref 1, .int s, .int t]) rfl (Nat.le_of_ble_eq_true rfl) ?_
  refine e_iload_n dX6_send_0 rfl (pn 1 rfl ?_)
  refine c_S1 dX6_send_1 ml_X6_62 ms_X6_isRegister (by decide) (x_isR w s) rfl rfl (Nat.le_of_ble_eq_true rfl) (pn 4 rfl ?_)
  rcases r2_cases h with hs | ⟨hs, ht⟩
  · rw [iR0 hs]
    refine e_if_eq 14 dX6_send_4 (by decide) (fun _ => ?_) (fun c_9 => absurd (by decide) c_9)
    refine e_ic (-1) dX6_send_14 (by decide) (pn 15 rfl ?_)
    exact e_iret dX6_send_15 rfl rfl rfl
  · rw [iRp hs]
    refine e_if_eq 14 dX6_send_4 (by decide) (fun c_9 => absurd c_9 (by decide)) (fun _ => pn 7 rfl ?_)
    refine e_iload_n dX6_send_7 rfl (pn 8 rfl ?_)
    refine c_S1 dX6_send_8 ml_X6_62 ms_X6_isRegister (by decide) (x_isR w t) rfl rfl (Nat.le_of_ble_eq_true rfl) (pn 11 rfl ?_)
    rw [iR0 ht]
    refine e_if_ne 16 dX6_send_11 (by decide) (fun c_9 => absurd c_9 (by decide)) (fun _ => pn 14 rfl ?_)
    refine e_ic (-1) dX6_send_14 (by decide) (pn 15 rfl ?_)
    exact e_iret dX6_send_15 rfl rfl rfl
theorem SI.snE {S : St} (hS : SI S) (t : Nat) : (snV S t S.2.2.2.2.2.1).2 = (snV S t S.2.2.2.2.2.2).2 := (snF_same hS.2.2.2.2.2 (S.2.1 t).length 0 []).1
theorem X_carry {w : Wd} {S : St} (hS : SI S) (h : XI w S) {t : Nat} (ht : t < 12) : (24 < (snV S t S.2.2.2.2.2.1).2.length → ∃ v, CW mX1_carry [.ref 39, .ref (3 + t), .int (nI S.1)] w (some (.int 0)) (w.set 40 (rowW v))) ∧ ((snV S t S.2.2.2.2.2.1).2.length ≤ 24 → CW mX1_carry [.ref 39, .ref (3 + t), .int (nI S.1)] w (some (.int 1)) ((w.set 40 (rowW (snV S t S.2.2.2.2.2.1).2)).set 39 (lnF S.2.2.2.2.1.1 (S.2.2.2.2.1.1 + S.2.2.2.2.1.2.1) (S.2.2.2.2.1.1 + S.2.2.2.2.1.2.1 + S.2.2.2.2.1.2.2) (snV S t S.2.2.2.2.2.1).1))) := by
  obtain ⟨h39, v0, h40⟩ := h.2.2.2.2.2
  have h64 := hS.2.2.2.2.1
  obtain ⟨st, hst⟩ := ln_ex S.2.2.2.2.1.1 (S.2.2.2.2.1.1 + S.2.2.2.2.1.2.1) (S.2.2.2.2.1.1 + S.2.2.2.2.1.2.1 + S.2.2.2.2.1.2.2) S.1 (S.2.1 t)
  have C := k_carry h39 ⟨by omega, by omega, by omega⟩ h40 hS.1 (h.1.2.2 t ht) (hS.w ht) (by omega) hst
  obtain ⟨r1, r2⟩ := cr_sn hst (S.2.1 t).length 0 S.2.2.2.2.2.1 [] (by simp)
  constructor
  · intro hl
    have e := r2 hl
    rw [e] at C
    refine ⟨(crF st (S.2.1 t).length 0 S.2.2.2.2.2.1 []).2.2, ?_⟩
    unfold crW at C
    rw [e] at C
    exact C
  · intro hl
    have e := r1 hl
    rw [e] at C
    exact C
theorem X_send1 {w : Wd} {S : St} (hS : SI S) (h : XI w S) {s t : Nat} (hs : s < 12) (ht : t < 12) (hf : 24 < (snV S t S.2.2.2.2.2.2).2.length) : ∃ w1, CW mX6_send [.ref 1, .int (nI s), .int (nI t)] w (some (.int (-5))) w1 ∧ FX w w1 ∧ XI w1 S := by
  obtain ⟨v, C⟩ := (X_carry hS h ht).1 (by rw [hS.snE]; exact hf)
  refine ⟨_, ?_, ag _ (by decide), h.s40 hS v⟩
  refine cw_of (M := mX6_send) fx_X6_send (lv := [.ref 1, .int (nI s), .int (nI t)]) rfl (Nat.le_of_ble_eq_true rfl) ?_
  refine e_iload_n dX6_send_0 rfl (pn 1 rfl ?_)
  refine c_S1 dX6_send_1 ml_X6_62 ms_X6_isRegister (by decide) (x_isR w _) rfl rfl (Nat.le_of_ble_eq_true rfl) (pn 4 rfl ?_)
  rw [iR1 hs]
  refine e_if_eq 14 dX6_send_4 (by decide) (fun c_9 => absurd c_9 (by decide)) (fun _ => pn 7 rfl ?_)
  refine e_iload_n dX6_send_7 rfl (pn 8 rfl ?_)
  refine c_S1 dX6_send_8 ml_X6_62 ms_X6_isRegister (by decide) (x_isR w _) rfl rfl (Nat.le_of_ble_eq_true rfl) (pn 11 rfl ?_)
  rw [iR1 ht]
  refine e_if_ne 16 dX6_send_11 (by decide) (fun _ => ?_) (fun c_9 => absurd c_9 (by decide))
  refine e_aload_n dX6_send_16 rfl (pn 17 rfl ?_)
  refine e_get dX6_send_17 fl_X6_51 h.1.1 rfl (pn 20 rfl ?_)
  refine e_aload_n dX6_send_20 rfl (pn 21 rfl ?_)
  refine e_get dX6_send_21 fl_X6_15 h.1.1 rfl (pn 24 rfl ?_)
  refine e_iload_n dX6_send_24 rfl (pn 25 rfl ?_)
  refine e_aald (t) dX6_send_25 h.1.2.1 rfl ht (by omega) (rf12_v ht) (pn 26 rfl ?_)
  refine e_aload_n dX6_send_26 rfl (pn 27 rfl ?_)
  refine e_get dX6_send_27 fl_X6_9 h.1.1 rfl (pn 30 rfl ?_)
  refine c_V1 dX6_send_30 ml_X6_189 mv_X1_carry (by decide) C h.2.2.2.2.2.1 rfl rfl (Nat.le_of_ble_eq_true rfl) (pn 33 rfl ?_)
  refine e_if_ne 39 dX6_send_33 (by decide) (fun c_9 => absurd c_9 (by decide)) (fun _ => pn 36 rfl ?_)
  refine e_bi (-5) dX6_send_36 (by decide) (pn 38 rfl ?_)
  exact e_iret dX6_send_38 rfl rfl rfl
theorem X_send2 {w : Wd} {S : St} (hS : SI S) (h : XI w S) {s t : Nat} (hs : s < 12) (ht : t < 12) (hf : (snV S t S.2.2.2.2.2.2).2.length ≤ 24) : ∃ w1, CW mX6_send [.ref 1, .int (nI s), .int (nI t)] w (some (.int (nI (snV S t S.2.2.2.2.2.2).2.length))) w1 ∧ FX w w1 ∧ XI w1 (sSd (sReg S s (snV S t S.2.2.2.2.2.2).2) ((snV S t S.2.2.2.2.2.1).1, (snV S t S.2.2.2.2.2.2).1)) := by
  have C := (X_carry hS h ht).2 (by rw [hS.snE]; exact hf)
  rw [hS.snE] at C
  have X1 := h.s40 hS (snV S t S.2.2.2.2.2.2).2
  obtain ⟨h39, v0, h40⟩ := X1.2.2.2.2.2
  have sm : nxS (snV S t S.2.2.2.2.2.1).1 = nxS (snV S t S.2.2.2.2.2.2).1 := (snF_same hS.2.2.2.2.2 (S.2.1 t).length 0 []).2
  generalize hY : snV S t S.2.2.2.2.2.2 = Y at *
  generalize hZ : snV S t S.2.2.2.2.2.1 = Z at *
  obtain ⟨-, v9, h409⟩ := h.2.2.2.2.2
  have g40 : (w.set 40 (rowW Y.2))[40]? = some (rowW Y.2) := gse h409
  have S2 : SI (sSd S (Z.1, Y.1)) := ⟨hS.1, hS.2.1, hS.2.2.1, hS.2.2.2.1, hS.2.2.2.2.1, sm⟩
  have X2 : XI ((w.set 40 (rowW Y.2)).set 39 (lnF S.2.2.2.2.1.1 (S.2.2.2.2.1.1 + S.2.2.2.2.1.2.1) (S.2.2.2.2.1.1 + S.2.2.2.2.1.2.1 + S.2.2.2.2.1.2.2) Z.1)) (sSd S (Z.1, Y.1)) := X1.inL hS (by decide) h39 rfl ⟨rfl, rfl, rfl, rfl⟩ ⟨gse h39, Y.2, gne (by decide) g40⟩
  have r40 : ((w.set 40 (rowW Y.2)).set 39 (lnF S.2.2.2.2.1.1 (S.2.2.2.2.1.1 + S.2.2.2.2.1.2.1) (S.2.2.2.2.1.1 + S.2.2.2.2.1.2.1 + S.2.2.2.2.1.2.2) Z.1))[40]? = some (rowW Y.2) := gne (by decide) g40
  have X3 := X2.reg S2 hs Y.2
  have rs := X2.1.2.2 s hs
  refine ⟨_, ?_, (ag (rowW Y.2) (by decide)).tr ((ag (lnF S.2.2.2.2.1.1 (S.2.2.2.2.1.1 + S.2.2.2.2.1.2.1) (S.2.2.2.2.1.1 + S.2.2.2.2.1.2.1 + S.2.2.2.2.1.2.2) Z.1) (by decide)).tr (ag (rowW Y.2) (by omega))), X3⟩
  refine cw_of (M := mX6_send) fx_X6_send (lv := [.ref 1, .int (nI s), .int (nI t)]) rfl (Nat.le_of_ble_eq_true rfl) ?_
  refine e_iload_n dX6_send_0 rfl (pn 1 rfl ?_)
  refine c_S1 dX6_send_1 ml_X6_62 ms_X6_isRegister (by decide) (x_isR w _) rfl rfl (Nat.le_of_ble_eq_true rfl) (pn 4 rfl ?_)
  rw [iR1 hs]
  refine e_if_eq 14 dX6_send_4 (by decide) (fun c_9 => absurd c_9 (by decide)) (fun _ => pn 7 rfl ?_)
  refine e_iload_n dX6_send_7 rfl (pn 8 rfl ?_)
  refine c_S1 dX6_send_8 ml_X6_62 ms_X6_isRegister (by decide) (x_isR w _) rfl rfl (Nat.le_of_ble_eq_true rfl) (pn 11 rfl ?_)
  rw [iR1 ht]
  refine e_if_ne 16 dX6_send_11 (by decide) (fun _ => ?_) (fun c_9 => absurd c_9 (by decide))
  refine e_aload_n dX6_send_16 rfl (pn 17 rfl ?_)
  refine e_get dX6_send_17 fl_X6_51 h.1.1 rfl (pn 20 rfl ?_)
  refine e_aload_n dX6_send_20 rfl (pn 21 rfl ?_)
  refine e_get dX6_send_21 fl_X6_15 h.1.1 rfl (pn 24 rfl ?_)
  refine e_iload_n dX6_send_24 rfl (pn 25 rfl ?_)
  refine e_aald (t) dX6_send_25 h.1.2.1 rfl ht (by omega) (rf12_v ht) (pn 26 rfl ?_)
  refine e_aload_n dX6_send_26 rfl (pn 27 rfl ?_)
  refine e_get dX6_send_27 fl_X6_9 h.1.1 rfl (pn 30 rfl ?_)
  refine c_V1 dX6_send_30 ml_X6_189 mv_X1_carry (by decide) C h.2.2.2.2.2.1 rfl rfl (Nat.le_of_ble_eq_true rfl) (pn 33 rfl ?_)
  refine e_if_ne 39 dX6_send_33 (by decide) (fun _ => ?_) (fun c_9 => absurd c_9 (by decide))
  refine e_aload_n dX6_send_39 rfl (pn 40 rfl ?_)
  refine e_get dX6_send_40 fl_X6_15 X2.1.1 rfl (pn 43 rfl ?_)
  refine e_iload_n dX6_send_43 rfl (pn 44 rfl ?_)
  refine e_aald (s) dX6_send_44 X2.1.2.1 rfl hs (by omega) (rf12_v hs) (pn 45 rfl ?_)
  refine e_aload_n dX6_send_45 rfl (pn 46 rfl ?_)
  refine e_get dX6_send_46 fl_X6_51 X2.1.1 rfl (pn 49 rfl ?_)
  refine e_get dX6_send_49 fl_X6_193 X2.2.2.2.2.2.1 rfl (pn 52 rfl ?_)
  refine c_V0 dX6_send_52 ml_X6_89 mv_X4_become (by decide) (r_become rs r40) rs rfl rfl (Nat.le_of_ble_eq_true rfl) (pn 55 rfl ?_)
  refine e_aload_n dX6_send_55 rfl (pn 56 rfl ?_)
  refine e_get dX6_send_56 fl_X6_15 X3.1.1 rfl (pn 59 rfl ?_)
  refine e_iload_n dX6_send_59 rfl (pn 60 rfl ?_)
  refine e_aald (s) dX6_send_60 X3.1.2.1 rfl hs (by omega) (rf12_v hs) (pn 61 rfl ?_)
  refine e_get dX6_send_61 fl_X6_74 (gse rs) rfl (pn 64 rfl ?_)
  exact e_iret dX6_send_64 rfl rfl rfl
theorem X_count {w : Wd} {S : St} (h : XI w S) (v : Int32) : CW mX6_count [.ref 1, .int v] w (some (.int (ctN S v))) w := by
  obtain ⟨wr, q0, m0, a0, b0, lm0, sz0, g15⟩ := h.c15
  obtain ⟨tq, tn, fd, bp, t1⟩ := h.2.2.2.2.1.1
  refine cw_of (M := mX6_count) fx_X6_count (lv := [.ref 1, .int v]) rfl (Nat.le_of_ble_eq_true rfl) ?_
  refine e_iload_n dX6_count_0 rfl (pn 1 rfl ?_)
  rcases v_cases v with rfl | rfl | rfl | rfl | hv
  · refine e_tabIn 32 dX6_count_1 (by decide) (by decide) (off := 31) (by decide) (by decide) ?_
    refine e_aload_n dX6_count_32 rfl (pn 33 rfl ?_)
    refine e_get dX6_count_33 fl_X6_9 h.1.1 rfl (pn 36 rfl ?_)
    exact e_iret dX6_count_36 rfl rfl rfl
  · refine e_tabIn 37 dX6_count_1 (by decide) (by decide) (off := 36) (by decide) (by decide) ?_
    refine e_aload_n dX6_count_37 rfl (pn 38 rfl ?_)
    refine e_get dX6_count_38 fl_X6_44 h.1.1 rfl (pn 41 rfl ?_)
    refine e_get dX6_count_41 fl_X6_165 t1 rfl (pn 44 rfl ?_)
    exact e_iret dX6_count_44 rfl rfl rfl
  · refine e_tabIn 45 dX6_count_1 (by decide) (by decide) (off := 44) (by decide) (by decide) ?_
    refine e_aload_n dX6_count_45 rfl (pn 46 rfl ?_)
    refine e_get dX6_count_46 fl_X6_23 h.1.1 rfl (pn 49 rfl ?_)
    refine e_get dX6_count_49 fl_X6_196 g15 rfl (pn 52 rfl ?_)
    exact e_iret dX6_count_52 rfl rfl rfl
  · refine e_tabIn 53 dX6_count_1 (by decide) (by decide) (off := 52) (by decide) (by decide) ?_
    refine e_aload_n dX6_count_53 rfl (pn 54 rfl ?_)
    refine c_V1 dX6_count_54 ml_X6_199 mv_X6_lettersOfAll (by decide) (x_all h.1) h.1.1 rfl rfl (Nat.le_of_ble_eq_true rfl) (pn 57 rfl ?_)
    exact e_iret dX6_count_57 rfl rfl rfl
  · refine e_tabOut 58 dX6_count_1 hv (by decide) ?_
    refine e_ic (-1) dX6_count_58 (by decide) (pn 59 rfl ?_)
    have n0 : ¬ v = 0 := fun e => by rw [e] at hv; revert hv; decide
    have n1 : ¬ v = 1 := fun e => by rw [e] at hv; revert hv; decide
    have n2 : ¬ v = 2 := fun e => by rw [e] at hv; revert hv; decide
    have n3 : ¬ v = 3 := fun e => by rw [e] at hv; revert hv; decide
    exact e_iret dX6_count_59 rfl (by rw [ctN, if_neg n0, if_neg n1, if_neg n2, if_neg n3]) rfl
