/-! LostLettersModel: parts, gained, power, numbers, product, adds -/
def pvS (g : Nat → Int64) (u : List Nat) (i k : Nat) : Nat → Int64
  | 0 => if k = 0 then 1 else 0
  | l + 1 => pvS g u i k l + (if nxW u l i < u.length then g (30 * nxW u l i + 30 + k - 1) else 0)
def ptV (g : Nat → Int64) (q : Nat) (u : List Nat) (i k : Nat) : Int64 := if 0 < k then pvS g u i k q else 1
def ptI (q : Nat) (u : List Nat) (i : Nat) : Nat → Nat → (Nat → Int64) → Nat → Int64
  | 0, _, g => g
  | c + 1, k, g => ptI q u i c (k + 1) (va_up g (30 * i + k) (ptV g q u i k))
def ptO (q n : Nat) (u : List Nat) : Nat → (Nat → Int64) → Nat → Int64
  | 0, g => g
  | i + 1, g => ptO q n u i (ptI q u i (n + 1) 0 g)
theorem q_parts {w : Wd} {D : Md} {mf lf : Nat → Int32} (hB : mB w D mf lf) (hq : 2 ≤ D.1 ∧ D.1 ≤ 4) {s : Nat} (hs : s < 24) {u : List Nat} (hu : wM mf lf s u) (ok : okW u) {g0 : Nat → Int64} (hf : w[46]? = some (aJ 900 g0)) {n : Nat} (hn : n ≤ 24) : CW mX7_parts [.ref 41, .int (nI s), .int (nI n)] w (some (.long (ptO D.1 n u (u.length + 1) g0 n))) (w.set 46 (aJ 900 (ptO D.1 n u (u.length + 1) g0))) := by
  have b1 := ok.1
  have up : ∀ g : Nat → Int64, mB (w.set 46 (aJ 900 g)) D mf lf ∧ (w.set 46 (aJ 900 g))[46]? = some (aJ 900 g) := fun g => ⟨⟨gne (by decide) hB.1, gne (by decide) hB.2.1, gne (by decide) hB.2.2⟩, gse hf⟩
  have cell : ∀ {r : Option Value} {w' : Wd} (i k : Nat) (g : Nat → Int64), i ≤ u.length → k ≤ n → EW mX7_parts none 14 [.ref 41, .int (nI s), .int (nI n), .int (nI i), .int (nI (k + 1)), dmy, dmy, dmy, dmy] [] (w.set 46 (aJ 900 (va_up g (30 * i + k) (ptV g D.1 u i k)))) r w' → EW mX7_parts none 20 [.ref 41, .int (nI s), .int (nI n), .int (nI i), .int (nI k), dmy, dmy, dmy, dmy] [] (w.set 46 (aJ 900 g)) r w' := by
    intro r w' i k g hi hk K
    obtain ⟨gB, g4⟩ := up g
    have store : ∀ (x : Int64) (x7 : Value), x = ptV g D.1 u i k → EW mX7_parts none 103 [.ref 41, .int (nI s), .int (nI n), .int (nI i), .int (nI k), .long x, dmy, x7, dmy] [] (w.set 46 (aJ 900 g)) r w' := by
      intro x x7 hx
      subst hx
      refine e_dr [_, _, _, _, _, _, _, _, _] 7 rfl ?_
      refine e_aload_n dX7_parts_103 rfl (pn 104 rfl ?_)
      refine e_get dX7_parts_104 fl_X7_30 gB.1 rfl (pn 107 rfl ?_)
      refine e_bi (30) dX7_parts_107 (by decide) (pn 109 rfl ?_)
      refine e_iload_n dX7_parts_109 rfl (pn 110 rfl ?_)
      refine e_imul dX7_parts_110 (pn 111 rfl ?_)
      refine e_iload dX7_parts_111 rfl (pn 113 rfl ?_)
      refine e_iadd dX7_parts_113 (pn 114 rfl ?_)
      refine e_lload dX7_parts_114 rfl (pn 116 rfl ?_)
      refine e_last (30 * i + k) dX7_parts_116 g4 (c30 i k) (by omega) (by omega) (pn 117 rfl ?_)
      rw [List.set_set]
      refine s_inc [_, _, _, _, _, _, _, _, _] (1) dX7_parts_117 (by decide) rfl (Nat.le_of_ble_eq_true rfl) rfl (pn 120 rfl ?_)
      refine e_goto 14 dX7_parts_120 (by decide) ?_
      rw [nI_1]
      exact e_dr [_, _, _, _, _, _, _, _, _] 5 rfl K
    have loop : 0 < k → ∀ (c l : Nat), l + c = D.1 → EW mX7_parts none 35 [.ref 41, .int (nI s), .int (nI n), .int (nI i), .int (nI k), .long (pvS g u i k l), dmy, .int (nI l), dmy] [] (w.set 46 (aJ 900 g)) r w' := by
      intro hk0 c
      induction c with
      | zero =>
        intro l hl
        have e : l = D.1 := by omega
        subst e
        refine e_iload dX7_parts_35 rfl (pn 37 rfl ?_)
        refine e_aload_n dX7_parts_37 rfl (pn 38 rfl ?_)
        refine e_get dX7_parts_38 fl_X7_7 gB.1 rfl (pn 41 rfl ?_)
        refine e_icmp_ge 103 dX7_parts_41 (by decide) (fun c41 => ?_) (fun c41 => pn 44 rfl ?_)
        · exact store _ _ (by rw [ptV, if_pos hk0])
        · exact absurd (nI_le (by omega) (by omega)) c41
      | succ c ih =>
        intro l hl
        have n1 := nxW_le u l i
        have K2 := ih (l + 1) (by omega)
        rw [pvS] at K2
        refine e_iload dX7_parts_35 rfl (pn 37 rfl ?_)
        refine e_aload_n dX7_parts_37 rfl (pn 38 rfl ?_)
        refine e_get dX7_parts_38 fl_X7_7 gB.1 rfl (pn 41 rfl ?_)
        refine e_icmp_ge 103 dX7_parts_41 (by decide) (fun c41 => ?_) (fun c41 => pn 44 rfl ?_)
        · exact absurd c41 (nI_ge (by omega) (by omega))
        · refine e_iload dX7_parts_44 rfl (pn 46 rfl ?_)
          refine e_if_le 103 dX7_parts_46 (by decide) (fun c46 => ?_) (fun c46 => pn 49 rfl ?_)
          · exact absurd c46 (nI_nle (by omega) (by omega))
          · refine e_aload_n dX7_parts_49 rfl (pn 50 rfl ?_)
            refine e_iload_n dX7_parts_50 rfl (pn 51 rfl ?_)
            refine e_iload_n dX7_parts_51 rfl (pn 52 rfl ?_)
            refine e_iload dX7_parts_52 rfl (pn 54 rfl ?_)
            refine c_V1 dX7_parts_54 ml_X7_129 mv_X7_next (by decide) (q_next gB hs hu ok (l := l) (p := i) (by omega) (by omega)) gB.1 rfl rfl (Nat.le_of_ble_eq_true rfl) (pn 57 rfl ?_)
            refine s_i [_, _, _, _, _, _, _, _, _] dX7_parts_57 (Nat.le_of_ble_eq_true rfl) rfl (pn 59 rfl ?_)
            refine e_lload dX7_parts_59 rfl (pn 61 rfl ?_)
            refine e_iload dX7_parts_61 rfl (pn 63 rfl ?_)
            refine e_aload_n dX7_parts_63 rfl (pn 64 rfl ?_)
            refine e_get dX7_parts_64 fl_X7_13 gB.1 rfl (pn 67 rfl ?_)
            refine e_iload_n dX7_parts_67 rfl (pn 68 rfl ?_)
            refine e_iald (s) dX7_parts_68 gB.2.1 rfl hs (by omega) (pn 69 rfl ?_)
            rw [hu.1]
            refine e_icmp_ge 93 dX7_parts_69 (by decide) (fun c69 => ?_) (fun c69 => pn 72 rfl ?_)
            · have hc : ¬ nxW u l i < u.length := fun e => nI_ge e (by omega) c69
              rw [if_neg hc] at K2
              refine e_lc (0) dX7_parts_93 (by decide) (pn 94 rfl ?_)
              refine e_ladd dX7_parts_94 (pn 95 rfl ?_)
              refine s_l [_, _, _, _, _, _, _, _, _] dX7_parts_95 (Nat.le_of_ble_eq_true rfl) rfl (pn 97 rfl ?_)
              refine s_inc [_, _, _, _, _, _, _, _, _] (1) dX7_parts_97 (by decide) rfl (Nat.le_of_ble_eq_true rfl) rfl (pn 100 rfl ?_)
              refine e_goto 35 dX7_parts_100 (by decide) ?_
              rw [nI_1]
              exact e_dr [_, _, _, _, _, _, _, _, _] 8 rfl K2
            · have hc : nxW u l i < u.length := Nat.lt_of_not_le (fun e => c69 (nI_le e (by omega)))
              rw [if_pos hc] at K2
              refine e_aload_n dX7_parts_72 rfl (pn 73 rfl ?_)
              refine e_get dX7_parts_73 fl_X7_30 gB.1 rfl (pn 76 rfl ?_)
              refine e_bi (30) dX7_parts_76 (by decide) (pn 78 rfl ?_)
              refine e_iload dX7_parts_78 rfl (pn 80 rfl ?_)
              refine e_imul dX7_parts_80 (pn 81 rfl ?_)
              refine e_bi (30) dX7_parts_81 (by decide) (pn 83 rfl ?_)
              refine e_iadd dX7_parts_83 (pn 84 rfl ?_)
              refine e_iload dX7_parts_84 rfl (pn 86 rfl ?_)
              refine e_iadd dX7_parts_86 (pn 87 rfl ?_)
              refine e_ic (1) dX7_parts_87 (by decide) (pn 88 rfl ?_)
              refine e_isub dX7_parts_88 (pn 89 rfl ?_)
              refine e_lald (30 * nxW u l i + 30 + k - 1) dX7_parts_89 g4 (by rw [d30]; exact pk_sub (b := 1) (by omega)) (by omega) (by omega) (pn 90 rfl ?_)
              refine e_goto 94 dX7_parts_90 (by decide) ?_
              refine e_ladd dX7_parts_94 (pn 95 rfl ?_)
              refine s_l [_, _, _, _, _, _, _, _, _] dX7_parts_95 (Nat.le_of_ble_eq_true rfl) rfl (pn 97 rfl ?_)
              refine s_inc [_, _, _, _, _, _, _, _, _] (1) dX7_parts_97 (by decide) rfl (Nat.le_of_ble_eq_true rfl) rfl (pn 100 rfl ?_)
              refine e_goto 35 dX7_parts_100 (by decide) ?_
              rw [nI_1]
              exact e_dr [_, _, _, _, _, _, _, _, _] 8 rfl K2
    refine e_iload dX7_parts_20 rfl (pn 22 rfl ?_)
    refine e_if_ne 29 dX7_parts_22 (by decide) (fun c22 => ?_) (fun c22 => pn 25 rfl ?_)
    · have hk0 : 0 < k := Nat.pos_of_ne_zero (fun e => c22 (by rw [e]; rfl))
      refine e_lc (0) dX7_parts_29 (by decide) (pn 30 rfl ?_)
      refine s_l [_, _, _, _, _, _, _, _, _] dX7_parts_30 (Nat.le_of_ble_eq_true rfl) rfl (pn 32 rfl ?_)
      refine e_ic (0) dX7_parts_32 (by decide) (pn 33 rfl ?_)
      refine s_i [_, _, _, _, _, _, _, _, _] dX7_parts_33 (Nat.le_of_ble_eq_true rfl) rfl (pn 35 rfl ?_)
      have L := loop hk0 D.1 0 (by omega)
      rw [pvS, if_neg (show ¬ k = 0 by omega)] at L
      exact L
    · have hk0 : k = 0 := (nI_eq (b := 0) (by omega) (by omega)).mp c22
      refine e_lc (1) dX7_parts_25 (by decide) (pn 26 rfl ?_)
      refine e_goto 30 dX7_parts_26 (by decide) ?_
      refine s_l [_, _, _, _, _, _, _, _, _] dX7_parts_30 (Nat.le_of_ble_eq_true rfl) rfl (pn 32 rfl ?_)
      refine e_ic (0) dX7_parts_32 (by decide) (pn 33 rfl ?_)
      refine s_i [_, _, _, _, _, _, _, _, _] dX7_parts_33 (Nat.le_of_ble_eq_true rfl) rfl (pn 35 rfl ?_)
      refine e_iload dX7_parts_35 rfl (pn 37 rfl ?_)
      refine e_aload_n dX7_parts_37 rfl (pn 38 rfl ?_)
      refine e_get dX7_parts_38 fl_X7_7 gB.1 rfl (pn 41 rfl ?_)
      refine e_icmp_ge 103 dX7_parts_41 (by decide) (fun c41 => ?_) (fun c41 => pn 44 rfl ?_)
      · exact store _ _ (by rw [ptV, if_neg (by omega)])
      · refine e_iload dX7_parts_44 rfl (pn 46 rfl ?_)
        refine e_if_le 103 dX7_parts_46 (by decide) (fun c46 => ?_) (fun c46 => pn 49 rfl ?_)
        · exact store _ _ (by rw [ptV, if_neg (by omega)])
        · exact absurd (by rw [hk0]; decide) c46
  have inner : ∀ {r : Option Value} {w' : Wd} (i : Nat), i ≤ u.length → ∀ (c k : Nat) (g : Nat → Int64), k + c = n + 1 → EW mX7_parts none 123 [.ref 41, .int (nI s), .int (nI n), .int (nI i), dmy, dmy, dmy, dmy, dmy] [] (w.set 46 (aJ 900 (ptI D.1 u i c k g))) r w' → EW mX7_parts none 14 [.ref 41, .int (nI s), .int (nI n), .int (nI i), .int (nI k), dmy, dmy, dmy, dmy] [] (w.set 46 (aJ 900 g)) r w' := by
    intro r w' i hi c
    induction c with
    | zero =>
      intro k g hk K
      refine e_iload dX7_parts_14 rfl (pn 16 rfl ?_)
      refine e_iload_n dX7_parts_16 rfl (pn 17 rfl ?_)
      refine e_icmp_gt 123 dX7_parts_17 (by decide) (fun c17 => ?_) (fun c17 => pn 20 rfl ?_)
      · exact e_dr [_, _, _, _, _, _, _, _, _] 4 rfl K
      · exact absurd (nI_lt (by omega) (by omega)) c17
    | succ c ih =>
      intro k g hk K
      refine e_iload dX7_parts_14 rfl (pn 16 rfl ?_)
      refine e_iload_n dX7_parts_16 rfl (pn 17 rfl ?_)
      refine e_icmp_gt 123 dX7_parts_17 (by decide) (fun c17 => ?_) (fun c17 => pn 20 rfl ?_)
      · exact absurd c17 (nI_nlt (by omega) (by omega))
      · exact cell i k g hi (by omega) (ih (k + 1) _ (by omega) K)
  have outer : ∀ {r : Option Value} {w' : Wd} (k : Nat) (g : Nat → Int64), k ≤ u.length + 1 → EW mX7_parts none 129 [.ref 41, .int (nI s), .int (nI n), dmy, dmy, dmy, dmy, dmy, dmy] [] (w.set 46 (aJ 900 (ptO D.1 n u k g))) r w' → EW mX7_parts none 7 [.ref 41, .int (nI s), .int (nI n), .int (nI k + (-1)), dmy, dmy, dmy, dmy, dmy] [] (w.set 46 (aJ 900 g)) r w' := by
    intro r w' k
    induction k with
    | zero =>
      intro g hk K
      refine e_iload_n dX7_parts_7 rfl (pn 8 rfl ?_)
      refine e_if_lt 129 dX7_parts_8 (by decide) (fun c8 => ?_) (fun c8 => pn 11 rfl ?_)
      · exact e_dr [_, _, _, _, _, _, _, _, _] 3 rfl K
      · exact absurd ((m1_lt 0 (by decide)).mpr rfl) c8
    | succ k ih =>
      intro g hk K
      simp only [pk_m1]
      refine e_iload_n dX7_parts_7 rfl (pn 8 rfl ?_)
      refine e_if_lt 129 dX7_parts_8 (by decide) (fun c8 => ?_) (fun c8 => pn 11 rfl ?_)
      · exact absurd c8 (nI_pos (by omega))
      · refine e_ic (0) dX7_parts_11 (by decide) (pn 12 rfl ?_)
        refine s_i [_, _, _, _, _, _, _, _, _] dX7_parts_12 (Nat.le_of_ble_eq_true rfl) rfl (pn 14 rfl ?_)
        refine inner k (by omega) (n + 1) 0 g (by omega) ?_
        refine s_inc [_, _, _, _, _, _, _, _, _] (-1) dX7_parts_123 (by decide) rfl (Nat.le_of_ble_eq_true rfl) rfl (pn 126 rfl ?_)
        refine e_goto 7 dX7_parts_126 (by decide) ?_
        exact ih _ (by omega) K
  refine cw_of (M := mX7_parts) fx_X7_parts (lv := [.ref 41, .int (nI s), .int (nI n), dmy, dmy, dmy, dmy, dmy, dmy]) rfl (Nat.le_of_ble_eq_true rfl) ?_
  refine e_aload_n dX7_parts_0 rfl (pn 1 rfl ?_)
  refine e_get dX7_parts_1 fl_X7_13 hB.1 rfl (pn 4 rfl ?_)
  refine e_iload_n dX7_parts_4 rfl (pn 5 rfl ?_)
  refine e_iald (s) dX7_parts_5 hB.2.1 rfl hs (by omega) (pn 6 rfl ?_)
  refine pw (set_id hf).symm ?_
  rw [hu.1, ← pk_m1 u.length]
  refine s_in [_, _, _, _, _, _, _, _, _] dX7_parts_6 (Nat.le_of_ble_eq_true rfl) rfl (pn 7 rfl ?_)
  refine outer (u.length + 1) g0 (Nat.le_refl _) ?_
  refine e_aload_n dX7_parts_129 rfl (pn 130 rfl ?_)
  refine e_get dX7_parts_130 fl_X7_30 (up _).1.1 rfl (pn 133 rfl ?_)
  refine e_iload_n dX7_parts_133 rfl (pn 134 rfl ?_)
  refine e_lald (n) dX7_parts_134 (up _).2 rfl (by omega) (by omega) (pn 135 rfl ?_)
  exact e_lret dX7_parts_135 rfl rfl rfl
def gaP (len : Int32) : Nat → Nat → Int64 → Int64
  | 0, _, v => v
  | c + 1, i, v => gaP len c (i + 1) (v * (len - nI i).toInt64 / (nI i + 1).toInt64)
def gaQ (q1 : Int32) : Nat → Int64 → Int64
  | 0, v => v
  | c + 1, v => gaQ q1 c (v * q1.toInt64)
def gaS (len q1 : Int32) : Nat → Nat → Int64 → Int64
  | 0, _, A => A
  | c + 1, k, A => gaS len q1 c (k + 1) (A + gaQ q1 k (gaP len k 0 1))
theorem q_gained {w : Wd} {D : Md} {mf lf : Nat → Int32} (hB : mB w D mf lf) {s : Nat} (hs : s < 24) {u : List Nat} (hu : wM mf lf s u) {n : Nat} (hn : n ≤ 6) : CW mX7_gained [.ref 41, .int (nI s), .int (nI n)] w (some (.long (gaS (nI u.length + nI n) (nI D.1 - 1) (n + 1) 0 0))) w := by
  generalize hlen : nI u.length + nI n = len
  have lP : ∀ {r : Option Value} {w' : Wd} (k : Nat), k ≤ n → ∀ (A : Int64) (c i : Nat) (v : Int64), i + c = k → EW mX7_gained none 57 [.ref 41, .int (nI s), .int (nI n), .long A, dmy, .int len, .int (nI k), .long (gaP len c i v), dmy, dmy] [] w r w' → EW mX7_gained none 27 [.ref 41, .int (nI s), .int (nI n), .long A, dmy, .int len, .int (nI k), .long v, dmy, .int (nI i)] [] w r w' := by
    intro r w' k hk A c
    induction c with
    | zero =>
      intro i v hi K
      refine e_iload dX7_gained_27 rfl (pn 29 rfl ?_)
      refine e_iload dX7_gained_29 rfl (pn 31 rfl ?_)
      refine e_icmp_ge 57 dX7_gained_31 (by decide) (fun c31 => ?_) (fun c31 => pn 34 rfl ?_)
      · exact e_dr [_, _, _, _, _, _, _, _, _, _] 9 rfl K
      · exact absurd (nI_le (by omega) (by omega)) c31
    | succ c ih =>
      intro i v hi K
      refine e_iload dX7_gained_27 rfl (pn 29 rfl ?_)
      refine e_iload dX7_gained_29 rfl (pn 31 rfl ?_)
      refine e_icmp_ge 57 dX7_gained_31 (by decide) (fun c31 => ?_) (fun c31 => pn 34 rfl ?_)
      · exact absurd c31 (nI_ge (by omega) (by omega))
      · rw [gaP] at K
        have K2 := ih (i + 1) _ (by omega) K
        rw [← nI_1 i] at K2
        refine e_lload dX7_gained_34 rfl (pn 36 rfl ?_)
        refine e_iload dX7_gained_36 rfl (pn 38 rfl ?_)
        refine e_iload dX7_gained_38 rfl (pn 40 rfl ?_)
        refine e_isub dX7_gained_40 (pn 41 rfl ?_)
        refine e_i2l dX7_gained_41 (pn 42 rfl ?_)
        refine e_lmul dX7_gained_42 (pn 43 rfl ?_)
        refine e_iload dX7_gained_43 rfl (pn 45 rfl ?_)
        refine e_ic (1) dX7_gained_45 (by decide) (pn 46 rfl ?_)
        refine e_iadd dX7_gained_46 (pn 47 rfl ?_)
        refine e_i2l dX7_gained_47 (pn 48 rfl ?_)
        refine e_ldiv dX7_gained_48 (ne0L (by omega)) (pn 49 rfl ?_)
        refine s_l [_, _, _, _, _, _, _, _, _, _] dX7_gained_49 (Nat.le_of_ble_eq_true rfl) rfl (pn 51 rfl ?_)
        refine s_inc [_, _, _, _, _, _, _, _, _, _] (1) dX7_gained_51 (by decide) rfl (Nat.le_of_ble_eq_true rfl) rfl (pn 54 rfl ?_)
        refine e_goto 27 dX7_gained_54 (by decide) ?_
        exact K2
  have lQ : ∀ {r : Option Value} {w' : Wd} (k : Nat), k ≤ n → ∀ (A : Int64) (c i : Nat) (v : Int64), i + c = k → EW mX7_gained none 85 [.ref 41, .int (nI s), .int (nI n), .long A, dmy, .int len, .int (nI k), .long (gaQ (nI D.1 - 1) c v), dmy, dmy] [] w r w' → EW mX7_gained none 60 [.ref 41, .int (nI s), .int (nI n), .long A, dmy, .int len, .int (nI k), .long v, dmy, .int (nI i)] [] w r w' := by
    intro r w' k hk A c
    induction c with
    | zero =>
      intro i v hi K
      refine e_iload dX7_gained_60 rfl (pn 62 rfl ?_)
      refine e_iload dX7_gained_62 rfl (pn 64 rfl ?_)
      refine e_icmp_ge 85 dX7_gained_64 (by decide) (fun c64 => ?_) (fun c64 => pn 67 rfl ?_)
      · exact e_dr [_, _, _, _, _, _, _, _, _, _] 9 rfl K
      · exact absurd (nI_le (by omega) (by omega)) c64
    | succ c ih =>
      intro i v hi K
      refine e_iload dX7_gained_60 rfl (pn 62 rfl ?_)
      refine e_iload dX7_gained_62 rfl (pn 64 rfl ?_)
      refine e_icmp_ge 85 dX7_gained_64 (by decide) (fun c64 => ?_) (fun c64 => pn 67 rfl ?_)
      · exact absurd c64 (nI_ge (by omega) (by omega))
      · rw [gaQ] at K
        refine e_lload dX7_gained_67 rfl (pn 69 rfl ?_)
        refine e_aload_n dX7_gained_69 rfl (pn 70 rfl ?_)
        refine e_get dX7_gained_70 fl_X7_7 hB.1 rfl (pn 73 rfl ?_)
        refine e_ic (1) dX7_gained_73 (by decide) (pn 74 rfl ?_)
        refine e_isub dX7_gained_74 (pn 75 rfl ?_)
        refine e_i2l dX7_gained_75 (pn 76 rfl ?_)
        refine e_lmul dX7_gained_76 (pn 77 rfl ?_)
        refine s_l [_, _, _, _, _, _, _, _, _, _] dX7_gained_77 (Nat.le_of_ble_eq_true rfl) rfl (pn 79 rfl ?_)
        refine s_inc [_, _, _, _, _, _, _, _, _, _] (1) dX7_gained_79 (by decide) rfl (Nat.le_of_ble_eq_true rfl) rfl (pn 82 rfl ?_)
        refine e_goto 60 dX7_gained_82 (by decide) ?_
        rw [nI_1]
        exact ih (i + 1) _ (by omega) K
  have lS : ∀ (c k : Nat) (A : Int64), k + c = n + 1 → EW mX7_gained none 15 [.ref 41, .int (nI s), .int (nI n), .long A, dmy, .int len, .int (nI k), dmy, dmy, dmy] [] w (some (.long (gaS len (nI D.1 - 1) c k A))) w := by
    intro c
    induction c with
    | zero =>
      intro k A hk
      refine e_iload dX7_gained_15 rfl (pn 17 rfl ?_)
      refine e_iload_n dX7_gained_17 rfl (pn 18 rfl ?_)
      refine e_icmp_gt 96 dX7_gained_18 (by decide) (fun c18 => ?_) (fun c18 => pn 21 rfl ?_)
      · refine e_lload_n dX7_gained_96 rfl (pn 97 rfl ?_)
        exact e_lret dX7_gained_97 rfl rfl rfl
      · exact absurd (nI_lt (by omega) (by omega)) c18
    | succ c ih =>
      intro k A hk
      rw [gaS]
      refine e_iload dX7_gained_15 rfl (pn 17 rfl ?_)
      refine e_iload_n dX7_gained_17 rfl (pn 18 rfl ?_)
      refine e_icmp_gt 96 dX7_gained_18 (by decide) (fun c18 => ?_) (fun c18 => pn 21 rfl ?_)
      · exact absurd c18 (nI_nlt (by omega) (by omega))
      · refine e_lc (1) dX7_gained_21 (by decide) (pn 22 rfl ?_)
        refine s_l [_, _, _, _, _, _, _, _, _, _] dX7_gained_22 (Nat.le_of_ble_eq_true rfl) rfl (pn 24 rfl ?_)
        refine e_ic (0) dX7_gained_24 (by decide) (pn 25 rfl ?_)
        refine s_i [_, _, _, _, _, _, _, _, _, _] dX7_gained_25 (Nat.le_of_ble_eq_true rfl) rfl (pn 27 rfl ?_)
        refine lP k (by omega) A k 0 1 (by omega) ?_
        refine e_ic (0) dX7_gained_57 (by decide) (pn 58 rfl ?_)
        refine s_i [_, _, _, _, _, _, _, _, _, _] dX7_gained_58 (Nat.le_of_ble_eq_true rfl) rfl (pn 60 rfl ?_)
        refine lQ k (by omega) A k 0 _ (by omega) ?_
        refine e_lload_n dX7_gained_85 rfl (pn 86 rfl ?_)
        refine e_lload dX7_gained_86 rfl (pn 88 rfl ?_)
        refine e_ladd dX7_gained_88 (pn 89 rfl ?_)
        refine s_ln [_, _, _, _, _, _, _, _, _, _] dX7_gained_89 (Nat.le_of_ble_eq_true rfl) rfl (pn 90 rfl ?_)
        refine s_inc [_, _, _, _, _, _, _, _, _, _] (1) dX7_gained_90 (by decide) rfl (Nat.le_of_ble_eq_true rfl) rfl (pn 93 rfl ?_)
        refine e_goto 15 dX7_gained_93 (by decide) ?_
        rw [nI_1]
        exact e_dr [_, _, _, _, _, _, _, _, _, _] 7 rfl (ih (k + 1) _ (by omega))
  refine cw_of (M := mX7_gained) fx_X7_gained (lv := [.ref 41, .int (nI s), .int (nI n), dmy, dmy, dmy, dmy, dmy, dmy, dmy]) rfl (Nat.le_of_ble_eq_true rfl) ?_
  refine e_lc (0) dX7_gained_0 (by decide) (pn 1 rfl ?_)
  refine s_ln [_, _, _, _, _, _, _, _, _, _] dX7_gained_1 (Nat.le_of_ble_eq_true rfl) rfl (pn 2 rfl ?_)
  refine e_aload_n dX7_gained_2 rfl (pn 3 rfl ?_)
  refine e_get dX7_gained_3 fl_X7_13 hB.1 rfl (pn 6 rfl ?_)
  refine e_iload_n dX7_gained_6 rfl (pn 7 rfl ?_)
  refine e_iald (s) dX7_gained_7 hB.2.1 rfl hs (by omega) (pn 8 rfl ?_)
  rw [hu.1]
  refine e_iload_n dX7_gained_8 rfl (pn 9 rfl ?_)
  refine e_iadd dX7_gained_9 (pn 10 rfl ?_)
  rw [hlen]
  refine s_i [_, _, _, _, _, _, _, _, _, _] dX7_gained_10 (Nat.le_of_ble_eq_true rfl) rfl (pn 12 rfl ?_)
  refine e_ic (0) dX7_gained_12 (by decide) (pn 13 rfl ?_)
  refine s_i [_, _, _, _, _, _, _, _, _, _] dX7_gained_13 (Nat.le_of_ble_eq_true rfl) rfl (pn 15 rfl ?_)
  exact lS (n + 1) 0 0 (by omega)
def pwL (q : Nat) : Nat → Nat → Nat
  | 0, v => v
  | c + 1, v => if 4096 < v then v else pwL q c (v * q)
theorem pwL_le {q : Nat} (hq : q ≤ 4) : ∀ (c v : Nat), v ≤ 16384 → pwL q c v ≤ 16384
  | 0, v, h => h
  | c + 1, v, h => by
    rw [pwL]
    split
    · exact h
    · refine pwL_le hq c (v * q) ?_
      calc v * q ≤ 4096 * 4 := Nat.mul_le_mul (by omega) hq
        _ = 16384 := rfl
theorem q_power {w : Wd} {D : Md} (h : w[41]? = some (mdF D)) (hq : D.1 ≤ 4) {n : Nat} (hn : n ≤ 12) : CW mX7_power [.ref 41, .int (nI n)] w (some (.int (nI (pwL D.1 n 1)))) w := by
  have loop : ∀ (c k v : Nat), k + c = n → v ≤ 16384 → EW mX7_power none 4 [.ref 41, .int (nI n), .int (nI v), .int (nI k)] [] w (some (.int (nI (pwL D.1 c v)))) w := by
    intro c
    induction c with
    | zero =>
      intro k v hk hv
      refine e_iload_n dX7_power_4 rfl (pn 5 rfl ?_)
      refine e_iload_n dX7_power_5 rfl (pn 6 rfl ?_)
      refine e_icmp_ge 29 dX7_power_6 (by decide) (fun c6 => ?_) (fun c6 => pn 9 rfl ?_)
      · refine e_iload_n dX7_power_29 rfl (pn 30 rfl ?_)
        exact e_iret dX7_power_30 rfl rfl rfl
      · exact absurd (nI_le (by omega) (by omega)) c6
    | succ c ih =>
      intro k v hk hv
      refine e_iload_n dX7_power_4 rfl (pn 5 rfl ?_)
      refine e_iload_n dX7_power_5 rfl (pn 6 rfl ?_)
      refine e_icmp_ge 29 dX7_power_6 (by decide) (fun c6 => ?_) (fun c6 => pn 9 rfl ?_)
      · exact absurd c6 (nI_ge (by omega) (by omega))
      · refine e_iload_n dX7_power_9 rfl (pn 10 rfl ?_)
        refine e_si (4096) dX7_power_10 (by decide) (pn 13 rfl ?_)
        refine e_icmp_gt 29 dX7_power_13 (by decide) (fun c13 => ?_) (fun c13 => pn 16 rfl ?_)
        · have hc : 4096 < v := Nat.lt_of_not_le (fun e => nI_nlt (b := v) (a := 4096) e (by omega) c13)
          refine e_iload_n dX7_power_29 rfl (pn 30 rfl ?_)
          exact e_iret dX7_power_30 rfl (by rw [pwL, if_pos hc]) rfl
        · have hc : ¬ 4096 < v := fun e => c13 (nI_lt (a := 4096) e (by omega))
          rw [pwL, if_neg hc]
          refine e_iload_n dX7_power_16 rfl (pn 17 rfl ?_)
          refine e_aload_n dX7_power_17 rfl (pn 18 rfl ?_)
          refine e_get dX7_power_18 fl_X7_7 h rfl (pn 21 rfl ?_)
          refine e_imul dX7_power_21 (pn 22 rfl ?_)
          refine s_in [_, _, _, _] dX7_power_22 (Nat.le_of_ble_eq_true rfl) rfl (pn 23 rfl ?_)
          refine s_inc [_, _, _, _] (1) dX7_power_23 (by decide) rfl (Nat.le_of_ble_eq_true rfl) rfl (pn 26 rfl ?_)
          refine e_goto 4 dX7_power_26 (by decide) ?_
          rw [pk_mul, nI_1]
          refine ih (k + 1) (v * D.1) (by omega) ?_
          calc v * D.1 ≤ 4096 * 4 := Nat.mul_le_mul (by omega) hq
            _ = 16384 := rfl
  refine cw_of (M := mX7_power) fx_X7_power (lv := [.ref 41, .int (nI n), dmy, dmy]) rfl (Nat.le_of_ble_eq_true rfl) ?_
  refine e_ic (1) dX7_power_0 (by decide) (pn 1 rfl ?_)
  refine s_in [_, _, _, _] dX7_power_1 (Nat.le_of_ble_eq_true rfl) rfl (pn 2 rfl ?_)
  refine e_ic (0) dX7_power_2 (by decide) (pn 3 rfl ?_)
  refine s_in [_, _, _, _] dX7_power_3 (Nat.le_of_ble_eq_true rfl) rfl (pn 4 rfl ?_)
  exact loop n 0 1 (by omega) (by omega)
/-- the k-th word of n letters in order -/
def nuW (q n x : Nat) : List Nat := (List.range n).map (fun k => x / q ^ (n - 1 - k) % q)
theorem nuW_len (q n x : Nat) : (nuW q n x).length = n := by simp [nuW]
theorem nuW_get {q n x k : Nat} (h : k < n) : (nuW q n x).getD k 0 = x / q ^ (n - 1 - k) % q := by
  simp [nuW, List.getD_eq_getElem?_getD, h]
def wrS (lf : Nat → Int32) (v : List Nat) (k : Nat) : Nat → Int32 := fun x => if 630 + k ≤ x ∧ x < 630 + v.length then nI (v.getD (x - 630) 0) else lf x
theorem wrS_0 (lf : Nat → Int32) (v : List Nat) : wrS lf v 0 = wrL lf 21 v := by
  funext x
  unfold wrS wrL
  rfl
theorem q_numbers {w : Wd} {D : Md} {mf0 lf0 : Nat → Int32} (h : mB w D mf0 lf0) {mf lf : Nat → Int32} (hq : 2 ≤ D.1 ∧ D.1 ≤ 4) {n x : Nat} (hn1 : 1 ≤ n) (hn : n ≤ 12) (hx : x < 2 ^ 20) : CW mX7_numbers [.ref 41, .int (nI n), .int (nI x)] (wA w mf lf) none (wA w (va_up mf 21 (nI n)) (wrL lf 21 (nuW D.1 n x))) := by
  have loop : ∀ k, k ≤ n → EW mX7_numbers none 15 [.ref 41, .int (nI n), .int (nI x), .int (nI (x / D.1 ^ (n - k))), .int (nI k + (-1))] [] (wA w (va_up mf 21 (nI n)) (wrS lf (nuW D.1 n x) k)) none (wA w (va_up mf 21 (nI n)) (wrL lf 21 (nuW D.1 n x))) := by
    intro k
    induction k with
    | zero =>
      intro hk
      rw [wrS_0]
      refine e_iload dX7_numbers_15 rfl (pn 17 rfl ?_)
      refine e_if_lt 50 dX7_numbers_17 (by decide) (fun c17 => ?_) (fun c17 => pn 20 rfl ?_)
      · exact e_vret dX7_numbers_50 rfl rfl rfl
      · exact absurd ((m1_lt 0 (by decide)).mpr rfl) c17
    | succ k ih =>
      intro hk
      have K := ih (by omega)
      have g := h.up (va_up mf 21 (nI n)) (wrS lf (nuW D.1 n x) (k + 1))
      have hdv : x / D.1 ^ (n - (k + 1)) ≤ x := Nat.div_le_self _ _
      have hpw : x / D.1 ^ (n - k) = x / D.1 ^ (n - (k + 1)) / D.1 := by
        rw [Nat.div_div_eq_div_mul, ← Nat.pow_succ, show (n - (k + 1)).succ = n - k by omega]
      have hst : va_up (wrS lf (nuW D.1 n x) (k + 1)) (630 + k) (nI (x / D.1 ^ (n - (k + 1)) % D.1)) = wrS lf (nuW D.1 n x) k := by
        funext y
        by_cases hy : y = 630 + k
        · subst hy
          rw [up_eq]
          unfold wrS
          rw [if_pos (by rw [nuW_len]; omega), show 630 + k - 630 = k by omega, nuW_get (by omega), show n - 1 - k = n - (k + 1) by omega]
        · rw [up_ne _ _ hy]
          unfold wrS
          by_cases h1 : 630 + (k + 1) ≤ y ∧ y < 630 + (nuW D.1 n x).length
          · rw [if_pos h1, if_pos (by omega)]
          · rw [if_neg h1, if_neg (by omega)]
      simp only [pk_m1]
      refine e_iload dX7_numbers_15 rfl (pn 17 rfl ?_)
      refine e_if_lt 50 dX7_numbers_17 (by decide) (fun c17 => ?_) (fun c17 => pn 20 rfl ?_)
      · exact absurd c17 (nI_pos (by omega))
      · refine e_aload_n dX7_numbers_20 rfl (pn 21 rfl ?_)
        refine e_get dX7_numbers_21 fl_X7_17 g.1 rfl (pn 24 rfl ?_)
        refine e_si (630) dX7_numbers_24 (by decide) (pn 27 rfl ?_)
        refine e_iload dX7_numbers_27 rfl (pn 29 rfl ?_)
        refine e_iadd dX7_numbers_29 (pn 30 rfl ?_)
        refine e_iload_n dX7_numbers_30 rfl (pn 31 rfl ?_)
        refine e_aload_n dX7_numbers_31 rfl (pn 32 rfl ?_)
        refine e_get dX7_numbers_32 fl_X7_7 g.1 rfl (pn 35 rfl ?_)
        refine e_irem dX7_numbers_35 (nI_ne0 (by omega) (by omega)) (pn 36 rfl ?_)
        rw [pk_rem (by omega) (by omega) (by omega)]
        refine e_iast (630 + k) dX7_numbers_36 g.2.2 (nI_add 630 k) (by omega) (by omega) (pn 37 rfl ?_)
        rw [wA43, hst]
        have g2 := h.up (va_up mf 21 (nI n)) (wrS lf (nuW D.1 n x) k)
        refine e_iload_n dX7_numbers_37 rfl (pn 38 rfl ?_)
        refine e_aload_n dX7_numbers_38 rfl (pn 39 rfl ?_)
        refine e_get dX7_numbers_39 fl_X7_7 g2.1 rfl (pn 42 rfl ?_)
        refine e_idiv dX7_numbers_42 (nI_ne0 (by omega) (by omega)) (pn 43 rfl ?_)
        rw [pk_div (by omega) (by omega) (by omega), ← hpw]
        refine s_in [_, _, _, _, _] dX7_numbers_43 (Nat.le_of_ble_eq_true rfl) rfl (pn 44 rfl ?_)
        refine s_inc [_, _, _, _, _] (-1) dX7_numbers_44 (by decide) rfl (Nat.le_of_ble_eq_true rfl) rfl (pn 47 rfl ?_)
        refine e_goto 15 dX7_numbers_47 (by decide) ?_
        exact K
  have g := h.up mf lf
  have L := loop n (Nat.le_refl _)
  rw [Nat.sub_self, Nat.pow_zero, Nat.div_one] at L
  have e0 : wrS lf (nuW D.1 n x) n = lf := by
    funext y
    unfold wrS
    rw [if_neg (by rw [nuW_len]; omega)]
  rw [e0] at L
  refine cw_of (M := mX7_numbers) fx_X7_numbers (lv := [.ref 41, .int (nI n), .int (nI x), dmy, dmy]) rfl (Nat.le_of_ble_eq_true rfl) ?_
  refine e_aload_n dX7_numbers_0 rfl (pn 1 rfl ?_)
  refine e_get dX7_numbers_1 fl_X7_13 g.1 rfl (pn 4 rfl ?_)
  refine e_bi (21) dX7_numbers_4 (by decide) (pn 6 rfl ?_)
  refine e_iload_n dX7_numbers_6 rfl (pn 7 rfl ?_)
  refine e_iast (21) dX7_numbers_7 g.2.1 rfl (by decide) (by omega) (pn 8 rfl ?_)
  rw [wA42]
  refine e_iload_n dX7_numbers_8 rfl (pn 9 rfl ?_)
  refine s_in [_, _, _, _, _] dX7_numbers_9 (Nat.le_of_ble_eq_true rfl) rfl (pn 10 rfl ?_)
  refine e_iload_n dX7_numbers_10 rfl (pn 11 rfl ?_)
  refine e_ic (1) dX7_numbers_11 (by decide) (pn 12 rfl ?_)
  refine e_isub dX7_numbers_12 (pn 13 rfl ?_)
  rw [show nI n - 1 = nI n + (-1) from (show nI n - 1 = nI (n - 1) from pk_sub (b := 1) hn1).trans (sb_m1 hn1).symm]
  refine s_i [_, _, _, _, _] dX7_numbers_13 (Nat.le_of_ble_eq_true rfl) rfl (pn 15 rfl ?_)
  exact L
def pdF (mp : Int64 → Int64 → Int64) (tr : Nat → List Nat) (v : List Nat) : Nat → Nat → Int64 → (Nat → Int64) → Int64 × (Nat → Int64)
  | 0, _, P, g => (P, g)
  | c + 1, j, P, g => pdF mp tr v c (j + 1) (mp P (lyO (tr j) v ((tr j).length + 1) g 0)) (lyO (tr j) v ((tr j).length + 1) g)
theorem q_product {w : Wd} {D : Md} {mf lf : Nat → Int32} (hB : mB w D mf lf) {tr : Nat → List Nat} (ht8 : D.2.2.2.2.2.1 ≤ 8) (htr : ∀ k, k < D.2.2.2.2.2.1 → wM mf lf (12 + k) (tr k) ∧ okW (tr k)) {v : List Nat} (hv : wM mf lf 21 v) (okv : okW v) {g0 : Nat → Int64} (hf : w[46]? = some (aJ 900 g0)) {mp : Int64 → Int64 → Int64} (hmp : ∀ P x, mp P x = if x = 0 then 0 else if (1000000000000000 : Int64) / x < P then 1000000000000000 else P * x) : CW mX7_product [.ref 41] w (some (.long (pdF mp tr v D.2.2.2.2.2.1 0 1 g0).1)) (w.set 46 (aJ 900 (pdF mp tr v D.2.2.2.2.2.1 0 1 g0).2)) := by
  have up : ∀ g : Nat → Int64, mB (w.set 46 (aJ 900 g)) D mf lf ∧ (w.set 46 (aJ 900 g))[46]? = some (aJ 900 g) := fun g => ⟨⟨gne (by decide) hB.1, gne (by decide) hB.2.1, gne (by decide) hB.2.2⟩, gse hf⟩
  have loop : ∀ (c j : Nat) (P : Int64) (g : Nat → Int64), j + c = D.2.2.2.2.2.1 → EW mX7_product none 4 [.ref 41, .long P, dmy, .int (nI j), dmy, dmy] [] (w.set 46 (aJ 900 g)) (some (.long (pdF mp tr v c j P g).1)) (w.set 46 (aJ 900 (pdF mp tr v c j P g).2)) := by
    intro c
    induction c with
    | zero =>
      intro j P g hj
      refine e_iload_n dX7_product_4 rfl (pn 5 rfl ?_)
      refine e_aload_n dX7_product_5 rfl (pn 6 rfl ?_)
      refine e_get dX7_product_6 fl_X7_50 (up g).1.1 rfl (pn 9 rfl ?_)
      refine e_icmp_ge 63 dX7_product_9 (by decide) (fun c9 => ?_) (fun c9 => pn 12 rfl ?_)
      · refine e_lload_n dX7_product_63 rfl (pn 64 rfl ?_)
        exact e_lret dX7_product_64 rfl rfl rfl
      · exact absurd (nI_le (by omega) (by omega)) c9
    | succ c ih =>
      intro j P g hj
      obtain ⟨gB, g4⟩ := up g
      have K := ih (j + 1) (mp P (lyO (tr j) v ((tr j).length + 1) g 0)) (lyO (tr j) v ((tr j).length + 1) g) (by omega)
      have LY := q_lies (s := 12 + j) (t := 21) ⟨gB, ⟨by omega, (htr j (by omega)).1, (htr j (by omega)).2⟩, by decide, hv, okv⟩ g4
      rw [List.set_set] at LY
      rw [pdF]
      generalize lyO (tr j) v ((tr j).length + 1) g = G at *
      refine e_iload_n dX7_product_4 rfl (pn 5 rfl ?_)
      refine e_aload_n dX7_product_5 rfl (pn 6 rfl ?_)
      refine e_get dX7_product_6 fl_X7_50 gB.1 rfl (pn 9 rfl ?_)
      refine e_icmp_ge 63 dX7_product_9 (by decide) (fun c9 => ?_) (fun c9 => pn 12 rfl ?_)
      · exact absurd c9 (nI_ge (by omega) (by omega))
      · refine e_aload_n dX7_product_12 rfl (pn 13 rfl ?_)
        refine e_bi (12) dX7_product_13 (by decide) (pn 15 rfl ?_)
        refine e_iload_n dX7_product_15 rfl (pn 16 rfl ?_)
        refine e_iadd dX7_product_16 (pn 17 rfl ?_)
        rw [show (12 : Int32) + nI j = nI (12 + j) from nI_add 12 j]
        refine e_bi (21) dX7_product_17 (by decide) (pn 19 rfl ?_)
        refine c_V1 dX7_product_19 ml_X7_120 mv_X7_lies (by decide) LY gB.1 rfl rfl (Nat.le_of_ble_eq_true rfl) (pn 22 rfl ?_)
        refine s_l [_, _, _, _, _, _] dX7_product_22 (Nat.le_of_ble_eq_true rfl) rfl (pn 24 rfl ?_)
        refine e_lload dX7_product_24 rfl (pn 26 rfl ?_)
        refine e_lc (0) dX7_product_26 (by decide) (pn 27 rfl ?_)
        refine e_lcmp dX7_product_27 (pn 28 rfl ?_)
        have m1 := hmp P (G 0)
        have last : ∀ x : Int64, x = mp P (G 0) → EW mX7_product none 56 [.ref 41, .long P, dmy, .int (nI j), .long (G 0), dmy] [.long x] (w.set 46 (aJ 900 G)) (some (.long (pdF mp tr v c (j + 1) (mp P (G 0)) G).1)) (w.set 46 (aJ 900 (pdF mp tr v c (j + 1) (mp P (G 0)) G).2)) := by
          intro x hx
          subst hx
          refine s_ln [_, _, _, _, _, _] dX7_product_56 (Nat.le_of_ble_eq_true rfl) rfl (pn 57 rfl ?_)
          refine s_inc [_, _, _, _, _, _] (1) dX7_product_57 (by decide) rfl (Nat.le_of_ble_eq_true rfl) rfl (pn 60 rfl ?_)
          refine e_goto 4 dX7_product_60 (by decide) ?_
          rw [nI_1]
          exact e_dr [_, _, _, _, _, _] 4 rfl K
        refine e_if_ne 35 dX7_product_28 (by decide) (fun c28 => ?_) (fun c28 => pn 31 rfl ?_)
        · have hne : ¬ G 0 = 0 := fun e => c28 ((cmp_eq _ _).mpr e)
          rw [if_neg hne] at m1
          refine e_lload_n dX7_product_35 rfl (pn 36 rfl ?_)
          refine e_ldc2 dX7_product_36 lk_X7_144 (pn 39 rfl ?_)
          refine e_lload dX7_product_39 rfl (pn 41 rfl ?_)
          refine e_ldiv dX7_product_41 hne (pn 42 rfl ?_)
          refine e_lcmp dX7_product_42 (pn 43 rfl ?_)
          refine e_if_le 52 dX7_product_43 (by decide) (fun c43 => ?_) (fun c43 => pn 46 rfl ?_)
          · have hc := (cmp_le _ _).mp c43
            rw [if_neg hc] at m1
            refine e_lload_n dX7_product_52 rfl (pn 53 rfl ?_)
            refine e_lload dX7_product_53 rfl (pn 55 rfl ?_)
            refine e_lmul dX7_product_55 (pn 56 rfl ?_)
            exact last _ m1.symm
          · have hc : (1000000000000000 : Int64) / G 0 < P := Decidable.not_not.mp (fun e => c43 ((cmp_le _ _).mpr e))
            rw [if_pos hc] at m1
            refine e_ldc2 dX7_product_46 lk_X7_144 (pn 49 rfl ?_)
            refine e_goto 56 dX7_product_49 (by decide) ?_
            exact last _ m1.symm
        · have he : G 0 = 0 := (cmp_eq _ _).mp c28
          rw [if_pos he] at m1
          refine e_lc (0) dX7_product_31 (by decide) (pn 32 rfl ?_)
          refine e_goto 56 dX7_product_32 (by decide) ?_
          exact last _ m1.symm
  refine cw_of (M := mX7_product) fx_X7_product (lv := [.ref 41, dmy, dmy, dmy, dmy, dmy]) rfl (Nat.le_of_ble_eq_true rfl) ?_
  refine e_lc (1) dX7_product_0 (by decide) (pn 1 rfl ?_)
  refine s_ln [_, _, _, _, _, _] dX7_product_1 (Nat.le_of_ble_eq_true rfl) rfl (pn 2 rfl ?_)
  refine e_ic (0) dX7_product_2 (by decide) (pn 3 rfl ?_)
  refine s_in [_, _, _, _, _, _] dX7_product_3 (Nat.le_of_ble_eq_true rfl) rfl (pn 4 rfl ?_)
  refine pw (set_id hf).symm ?_
  exact loop D.2.2.2.2.2.1 0 1 g0 (by omega)
