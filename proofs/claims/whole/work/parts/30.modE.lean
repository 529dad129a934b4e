/-! common, commons -/
theorem M_com0 (w : Wd) {s t u : Int32} (h : ¬ (rOK s ∧ rOK t ∧ rOK u)) : CW mX7_common [.ref 41, .int s, .int t, .int u] w (some (.int (-1))) w := by
  refine cw_of (M := mX7_common) fx_X7_common (lv := [.ref 41, .int s, .int t, .int u, dmy, dmy, dmy, dmy, dmy]) rfl (Nat.le_of_ble_eq_true rfl) ?_
  refine e_iload_n dX7_common_0 rfl (pn 1 rfl ?_)
  refine c_S1 dX7_common_1 ml_X7_53 ms_X7_isRegister (by decide) (q_isR w s) rfl rfl (Nat.le_of_ble_eq_true rfl) (pn 4 rfl ?_)
  by_cases hs : rOK s
  · rw [iRp hs]
    refine e_if_eq 21 dX7_common_4 (by decide) (fun c_9 => absurd c_9 (by decide)) (fun _ => pn 7 rfl ?_)
    refine e_iload_n dX7_common_7 rfl (pn 8 rfl ?_)
    refine c_S1 dX7_common_8 ml_X7_53 ms_X7_isRegister (by decide) (q_isR w t) rfl rfl (Nat.le_of_ble_eq_true rfl) (pn 11 rfl ?_)
    by_cases ht : rOK t
    · rw [iRp ht]
      refine e_if_eq 21 dX7_common_11 (by decide) (fun c_9 => absurd c_9 (by decide)) (fun _ => pn 14 rfl ?_)
      refine e_iload_n dX7_common_14 rfl (pn 15 rfl ?_)
      refine c_S1 dX7_common_15 ml_X7_53 ms_X7_isRegister (by decide) (q_isR w u) rfl rfl (Nat.le_of_ble_eq_true rfl) (pn 18 rfl ?_)
      rw [iR0 (fun e => h ⟨hs, ht, e⟩)]
      refine e_if_ne 23 dX7_common_18 (by decide) (fun c_9 => absurd c_9 (by decide)) (fun _ => pn 21 rfl ?_)
      refine e_ic (-1) dX7_common_21 (by decide) (pn 22 rfl ?_)
      exact e_iret dX7_common_22 rfl rfl rfl
    · rw [iR0 ht]
      refine e_if_eq 21 dX7_common_11 (by decide) (fun _ => ?_) (fun c_9 => absurd (by decide) c_9)
      refine e_ic (-1) dX7_common_21 (by decide) (pn 22 rfl ?_)
      exact e_iret dX7_common_22 rfl rfl rfl
  · rw [iR0 hs]
    refine e_if_eq 21 dX7_common_4 (by decide) (fun _ => ?_) (fun c_9 => absurd (by decide) c_9)
    refine e_ic (-1) dX7_common_21 (by decide) (pn 22 rfl ?_)
    exact e_iret dX7_common_22 rfl rfl rfl
theorem M_com1 {w : Wd} {S : St} (h : MI w S) {s t u : Nat} (hs : s < 12) (ht : t < 12) (hu : u < 12) : ∃ w2, CW mX7_common [.ref 41, .int (nI s), .int (nI t), .int (nI u)] w (some (.int (nI (lcX (S.2.1 t) (S.2.1 u) 0 0)))) w2 ∧ FM w w2 ∧ MI w2 (sReg S s (fcO (S.2.1 t) (S.2.1 u) S.1 (lcX (S.2.1 t) (S.2.1 u) 0 0) 0 0 [])) := by
  obtain ⟨hS, x, mf, lf, E, nl, g, f, hX, hW, hE⟩ := h
  have hq := hS.1
  have okt := hS.w ht
  have oku := hS.w hu
  have b1 := okt.1
  have b2 := oku.1
  have hmem := (hS.2.1 t ht).2
  have X1 := hX.s47 (mlO (S.2.1 t) (S.2.1 u) ((S.2.1 t).length + 1) f)
  have F1 := hX.F47 (FM.rf w) (mlO (S.2.1 t) (S.2.1 u) ((S.2.1 t).length + 1) f)
  have LG := q_longests (MI.mT hS hX hW ht hu) hX.2.2.2.2
  have V : ∀ i j, i ≤ (S.2.1 t).length → j ≤ (S.2.1 u).length → mlO (S.2.1 t) (S.2.1 u) ((S.2.1 t).length + 1) f (30 * i + j) = nI (lcX (S.2.1 t) (S.2.1 u) i j) := fun i j hi hj => mlO_v b1 b2 f hi hj
  have wt := hW.1 t ht
  have wu := hW.1 u hu
  generalize hF : mlO (S.2.1 t) (S.2.1 u) ((S.2.1 t).length + 1) f = F at *
  generalize hw1 : w.set 47 (aI 900 F) = w1 at *
  have hN := lcX_le (S.2.1 t) (S.2.1 u) 0 0
  obtain ⟨oL, oM⟩ := fcO_ok (S.2.1 t) (S.2.1 u) hq.1 (lcX (S.2.1 t) (S.2.1 u) 0 0) 0 0 []
  have oM := oM (fun a ha => by cases ha)
  simp only [List.length_nil, Nat.zero_add] at oL
  generalize hv : fcO (S.2.1 t) (S.2.1 u) S.1 (lcX (S.2.1 t) (S.2.1 u) 0 0) 0 0 [] = v at *
  have W1 := hW.hand hS.2.2.2.1.1 (s := 20) (v := v) (by decide) (by omega) (nI v.length)
  have V1 : wM (va_up mf 20 (nI v.length)) (wrL lf 20 v) 20 v := wM.wr mf lf (by omega)
  have CP := q_copies X1.1 (mf := va_up mf 20 (nI v.length)) (lf := wrL lf 20 v) (s := s) (t := 20) (by omega) (by decide)
  have X2 := X1.sA (va_up (va_up mf 20 (nI v.length)) s (va_up mf 20 (nI v.length) 20)) (cpF (wrL lf 20 v) s 20 30)
  refine ⟨wA w1 (va_up (va_up mf 20 (nI v.length)) s (va_up mf 20 (nI v.length) 20)) (cpF (wrL lf 20 v) s 20 30), ?_, X1.FA F1 _ _, hS.reg ⟨by omega, oM⟩, x, _, _, E, nl, g, F, X2, W1.cp hs V1, hE⟩
  have inner : ∀ {r : Option Value} {w' : Wd} (acc : List Nat), acc.length ≤ 24 → ∀ (i j n : Nat), i ≤ (S.2.1 t).length → j ≤ (S.2.1 u).length → n ≤ 24 → lcX (S.2.1 t) (S.2.1 u) i j = n + 1 → ∀ (d l : Nat), l + d = S.1 - 1 → (∀ y, y < l → ¬ gN (S.2.1 t) (S.2.1 u) (nxW (S.2.1 t) y i) (nxW (S.2.1 u) y j) n) → EW mX7_common none 170 [.ref 41, .int (nI s), .int (nI t), .int (nI u), .int (nI i), .int (nI j), .int (nI (fcL (S.2.1 t) (S.2.1 u) i j n d l)), .int (nI (nxW (S.2.1 t) (fcL (S.2.1 t) (S.2.1 u) i j n d l) i)), .int (nI (nxW (S.2.1 u) (fcL (S.2.1 t) (S.2.1 u) i j n d l) j))] [] (wA w1 (va_up mf 20 (nI acc.length)) (wrL lf 20 acc)) r w' → EW mX7_common none 84 [.ref 41, .int (nI s), .int (nI t), .int (nI u), .int (nI i), .int (nI j), .int (nI l), .int (nI (nxW (S.2.1 t) l i)), .int (nI (nxW (S.2.1 u) l j))] [] (wA w1 (va_up mf 20 (nI acc.length)) (wrL lf 20 acc)) r w' := by
    intro r w' acc hacc i j n hi hj hn24 hlc d
    have X3 := X1.sA (va_up mf 20 (nI acc.length)) (wrL lf 20 acc)
    have wt3 : wM (va_up mf 20 (nI acc.length)) (wrL lf 20 acc) t (S.2.1 t) := wt.other (by omega) (by omega) _
    have wu3 : wM (va_up mf 20 (nI acc.length)) (wrL lf 20 acc) u (S.2.1 u) := wu.other (by omega) (by omega) _
    have hex := lc_ex hmem (u := S.2.1 u) _ i j n (Nat.le_refl _) hlc
    -- when the letter goes on
    have good : ∀ l, gN (S.2.1 t) (S.2.1 u) (nxW (S.2.1 t) l i) (nxW (S.2.1 u) l j) n → EW mX7_common none 170 [.ref 41, .int (nI s), .int (nI t), .int (nI u), .int (nI i), .int (nI j), .int (nI l), .int (nI (nxW (S.2.1 t) l i)), .int (nI (nxW (S.2.1 u) l j))] [] (wA w1 (va_up mf 20 (nI acc.length)) (wrL lf 20 acc)) r w' → EW mX7_common none 84 [.ref 41, .int (nI s), .int (nI t), .int (nI u), .int (nI i), .int (nI j), .int (nI l), .int (nI (nxW (S.2.1 t) l i)), .int (nI (nxW (S.2.1 u) l j))] [] (wA w1 (va_up mf 20 (nI acc.length)) (wrL lf 20 acc)) r w' := by
      intro l hg K
      obtain ⟨g1, g2, g3⟩ := hg
      refine e_iload dX7_common_84 rfl (pn 86 rfl ?_)
      refine e_aload_n dX7_common_86 rfl (pn 87 rfl ?_)
      refine e_get dX7_common_87 fl_X7_13 X3.1.1 rfl (pn 90 rfl ?_)
      refine e_iload_n dX7_common_90 rfl (pn 91 rfl ?_)
      refine e_iald (t) dX7_common_91 X3.1.2.1 rfl (by omega) (by omega) (pn 92 rfl ?_)
      rw [wt3.1]
      refine e_icmp_eq 142 dX7_common_92 (by decide) (fun c_9 => absurd c_9 (fun e => by have := (nI_eq (by omega) (by omega)).mp e; omega)) (fun _ => pn 95 rfl ?_)
      refine e_iload dX7_common_95 rfl (pn 97 rfl ?_)
      refine e_aload_n dX7_common_97 rfl (pn 98 rfl ?_)
      refine e_get dX7_common_98 fl_X7_13 X3.1.1 rfl (pn 101 rfl ?_)
      refine e_iload_n dX7_common_101 rfl (pn 102 rfl ?_)
      refine e_iald (u) dX7_common_102 X3.1.2.1 rfl (by omega) (by omega) (pn 103 rfl ?_)
      rw [wu3.1]
      refine e_icmp_eq 142 dX7_common_103 (by decide) (fun c_9 => absurd c_9 (fun e => by have := (nI_eq (by omega) (by omega)).mp e; omega)) (fun _ => pn 106 rfl ?_)
      refine e_aload_n dX7_common_106 rfl (pn 107 rfl ?_)
      refine e_get dX7_common_107 fl_X7_34 X3.1.1 rfl (pn 110 rfl ?_)
      refine e_bi (30) dX7_common_110 (by decide) (pn 112 rfl ?_)
      refine e_iload dX7_common_112 rfl (pn 114 rfl ?_)
      refine e_imul dX7_common_114 (pn 115 rfl ?_)
      refine e_bi (30) dX7_common_115 (by decide) (pn 117 rfl ?_)
      refine e_iadd dX7_common_117 (pn 118 rfl ?_)
      refine e_iload dX7_common_118 rfl (pn 120 rfl ?_)
      refine e_iadd dX7_common_120 (pn 121 rfl ?_)
      refine e_ic (1) dX7_common_121 (by decide) (pn 122 rfl ?_)
      refine e_iadd dX7_common_122 (pn 123 rfl ?_)
      refine e_iald (30 * nxW (S.2.1 t) l i + 30 + nxW (S.2.1 u) l j + 1) dX7_common_123 X3.2.2.2.2 (d301 _ _) (by omega) (by omega) (pn 124 rfl ?_)
      refine e_ic (1) dX7_common_124 (by decide) (pn 125 rfl ?_)
      refine e_iadd dX7_common_125 (pn 126 rfl ?_)
      refine e_aload_n dX7_common_126 rfl (pn 127 rfl ?_)
      refine e_get dX7_common_127 fl_X7_34 X3.1.1 rfl (pn 130 rfl ?_)
      refine e_bi (30) dX7_common_130 (by decide) (pn 132 rfl ?_)
      refine e_iload dX7_common_132 rfl (pn 134 rfl ?_)
      refine e_imul dX7_common_134 (pn 135 rfl ?_)
      refine e_iload dX7_common_135 rfl (pn 137 rfl ?_)
      refine e_iadd dX7_common_137 (pn 138 rfl ?_)
      refine e_iald (30 * i + j) dX7_common_138 X3.2.2.2.2 (c30 i j) (by omega) (by omega) (pn 139 rfl ?_)
      rw [show 30 * nxW (S.2.1 t) l i + 30 + nxW (S.2.1 u) l j + 1 = 30 * (nxW (S.2.1 t) l i + 1) + (nxW (S.2.1 u) l j + 1) by omega, V (nxW (S.2.1 t) l i + 1) (nxW (S.2.1 u) l j + 1) (by omega) (by omega), V i j hi hj, g3, hlc, nI_1]
      refine e_icmp_eq 170 dX7_common_139 (by decide) (fun _ => ?_) (fun c_9 => absurd rfl c_9)
      exact K
    have bad : ∀ l, l < 4 → ¬ gN (S.2.1 t) (S.2.1 u) (nxW (S.2.1 t) l i) (nxW (S.2.1 u) l j) n → EW mX7_common none 84 [.ref 41, .int (nI s), .int (nI t), .int (nI u), .int (nI i), .int (nI j), .int (nI (l + 1)), .int (nI (nxW (S.2.1 t) (l + 1) i)), .int (nI (nxW (S.2.1 u) (l + 1) j))] [] (wA w1 (va_up mf 20 (nI acc.length)) (wrL lf 20 acc)) r w' → EW mX7_common none 84 [.ref 41, .int (nI s), .int (nI t), .int (nI u), .int (nI i), .int (nI j), .int (nI l), .int (nI (nxW (S.2.1 t) l i)), .int (nI (nxW (S.2.1 u) l j))] [] (wA w1 (va_up mf 20 (nI acc.length)) (wrL lf 20 acc)) r w' := by
      intro l hl4 hg K
      have n1 := nxW_le (S.2.1 t) l i
      have n2 := nxW_le (S.2.1 u) l j
      have step : EW mX7_common none 142 [.ref 41, .int (nI s), .int (nI t), .int (nI u), .int (nI i), .int (nI j), .int (nI l), .int (nI (nxW (S.2.1 t) l i)), .int (nI (nxW (S.2.1 u) l j))] [] (wA w1 (va_up mf 20 (nI acc.length)) (wrL lf 20 acc)) r w' := by
        refine s_inc [_, _, _, _, _, _, _, _, _] (1) dX7_common_142 (by decide) rfl (Nat.le_of_ble_eq_true rfl) rfl (pn 145 rfl ?_)
        rw [nI_1]
        refine e_aload_n dX7_common_145 rfl (pn 146 rfl ?_)
        refine e_iload_n dX7_common_146 rfl (pn 147 rfl ?_)
        refine e_iload dX7_common_147 rfl (pn 149 rfl ?_)
        refine e_iload dX7_common_149 rfl (pn 151 rfl ?_)
        refine c_V1 dX7_common_151 ml_X7_129 mv_X7_next (by decide) (q_next X3.1 (show t < 24 by omega) wt3 okt (l := l + 1) (p := i) (by omega) (by omega)) X3.1.1 rfl rfl (Nat.le_of_ble_eq_true rfl) (pn 154 rfl ?_)
        refine s_i [_, _, _, _, _, _, _, _, _] dX7_common_154 (Nat.le_of_ble_eq_true rfl) rfl (pn 156 rfl ?_)
        refine e_aload_n dX7_common_156 rfl (pn 157 rfl ?_)
        refine e_iload_n dX7_common_157 rfl (pn 158 rfl ?_)
        refine e_iload dX7_common_158 rfl (pn 160 rfl ?_)
        refine e_iload dX7_common_160 rfl (pn 162 rfl ?_)
        refine c_V1 dX7_common_162 ml_X7_129 mv_X7_next (by decide) (q_next X3.1 (show u < 24 by omega) wu3 oku (l := l + 1) (p := j) (by omega) (by omega)) X3.1.1 rfl rfl (Nat.le_of_ble_eq_true rfl) (pn 165 rfl ?_)
        refine s_i [_, _, _, _, _, _, _, _, _] dX7_common_165 (Nat.le_of_ble_eq_true rfl) rfl (pn 167 rfl ?_)
        refine e_goto 84 dX7_common_167 (by decide) ?_
        exact K
      refine e_iload dX7_common_84 rfl (pn 86 rfl ?_)
      refine e_aload_n dX7_common_86 rfl (pn 87 rfl ?_)
      refine e_get dX7_common_87 fl_X7_13 X3.1.1 rfl (pn 90 rfl ?_)
      refine e_iload_n dX7_common_90 rfl (pn 91 rfl ?_)
      refine e_iald (t) dX7_common_91 X3.1.2.1 rfl (by omega) (by omega) (pn 92 rfl ?_)
      rw [wt3.1]
      by_cases e1 : nxW (S.2.1 t) l i = (S.2.1 t).length
      · refine e_icmp_eq 142 dX7_common_92 (by decide) (fun _ => ?_) (fun c_9 => absurd (by rw [e1]) c_9)
        exact step
      · refine e_icmp_eq 142 dX7_common_92 (by decide) (fun c_9 => absurd c_9 (fun e => e1 ((nI_eq (by omega) (by omega)).mp e))) (fun _ => pn 95 rfl ?_)
        refine e_iload dX7_common_95 rfl (pn 97 rfl ?_)
        refine e_aload_n dX7_common_97 rfl (pn 98 rfl ?_)
        refine e_get dX7_common_98 fl_X7_13 X3.1.1 rfl (pn 101 rfl ?_)
        refine e_iload_n dX7_common_101 rfl (pn 102 rfl ?_)
        refine e_iald (u) dX7_common_102 X3.1.2.1 rfl (by omega) (by omega) (pn 103 rfl ?_)
        rw [wu3.1]
        by_cases e2 : nxW (S.2.1 u) l j = (S.2.1 u).length
        · refine e_icmp_eq 142 dX7_common_103 (by decide) (fun _ => ?_) (fun c_9 => absurd (by rw [e2]) c_9)
          exact step
        · refine e_icmp_eq 142 dX7_common_103 (by decide) (fun c_9 => absurd c_9 (fun e => e2 ((nI_eq (by omega) (by omega)).mp e))) (fun _ => pn 106 rfl ?_)
          refine e_aload_n dX7_common_106 rfl (pn 107 rfl ?_)
          refine e_get dX7_common_107 fl_X7_34 X3.1.1 rfl (pn 110 rfl ?_)
          refine e_bi (30) dX7_common_110 (by decide) (pn 112 rfl ?_)
          refine e_iload dX7_common_112 rfl (pn 114 rfl ?_)
          refine e_imul dX7_common_114 (pn 115 rfl ?_)
          refine e_bi (30) dX7_common_115 (by decide) (pn 117 rfl ?_)
          refine e_iadd dX7_common_117 (pn 118 rfl ?_)
          refine e_iload dX7_common_118 rfl (pn 120 rfl ?_)
          refine e_iadd dX7_common_120 (pn 121 rfl ?_)
          refine e_ic (1) dX7_common_121 (by decide) (pn 122 rfl ?_)
          refine e_iadd dX7_common_122 (pn 123 rfl ?_)
          refine e_iald (30 * nxW (S.2.1 t) l i + 30 + nxW (S.2.1 u) l j + 1) dX7_common_123 X3.2.2.2.2 (d301 _ _) (by omega) (by omega) (pn 124 rfl ?_)
          refine e_ic (1) dX7_common_124 (by decide) (pn 125 rfl ?_)
          refine e_iadd dX7_common_125 (pn 126 rfl ?_)
          refine e_aload_n dX7_common_126 rfl (pn 127 rfl ?_)
          refine e_get dX7_common_127 fl_X7_34 X3.1.1 rfl (pn 130 rfl ?_)
          refine e_bi (30) dX7_common_130 (by decide) (pn 132 rfl ?_)
          refine e_iload dX7_common_132 rfl (pn 134 rfl ?_)
          refine e_imul dX7_common_134 (pn 135 rfl ?_)
          refine e_iload dX7_common_135 rfl (pn 137 rfl ?_)
          refine e_iadd dX7_common_137 (pn 138 rfl ?_)
          refine e_iald (30 * i + j) dX7_common_138 X3.2.2.2.2 (c30 i j) (by omega) (by omega) (pn 139 rfl ?_)
          have l9 := lcX_le (S.2.1 t) (S.2.1 u) (nxW (S.2.1 t) l i + 1) (nxW (S.2.1 u) l j + 1)
          rw [show 30 * nxW (S.2.1 t) l i + 30 + nxW (S.2.1 u) l j + 1 = 30 * (nxW (S.2.1 t) l i + 1) + (nxW (S.2.1 u) l j + 1) by omega, V (nxW (S.2.1 t) l i + 1) (nxW (S.2.1 u) l j + 1) (by omega) (by omega), V i j hi hj, hlc, nI_1]
          refine e_icmp_eq 170 dX7_common_139 (by decide) (fun c_9 => absurd c_9 (fun e => by have := (nI_eq (by omega) (by omega)).mp e; exact hg ⟨by omega, by omega, by omega⟩)) (fun _ => pn 142 rfl ?_)
          exact step
    induction d with
    | zero =>
      intro l hl hno K
      obtain ⟨-, hg⟩ := fcL_ok hex 0 l hl hno
      exact good l hg K
    | succ d ih =>
      intro l hl hno K
      rw [fcL] at K
      by_cases hg : gN (S.2.1 t) (S.2.1 u) (nxW (S.2.1 t) l i) (nxW (S.2.1 u) l j) n
      · rw [if_pos hg] at K
        exact good l hg K
      · rw [if_neg hg] at K
        refine bad l (by omega) hg (ih (l + 1) (by omega) (fun y hy => ?_) K)
        by_cases e : y = l
        · rw [e]; exact hg
        · exact hno y (by omega)
  have outer : ∀ (n i j : Nat) (acc : List Nat), i ≤ (S.2.1 t).length → j ≤ (S.2.1 u).length → lcX (S.2.1 t) (S.2.1 u) i j = n → acc.length + n ≤ 24 → fcO (S.2.1 t) (S.2.1 u) S.1 n i j acc = v → EW mX7_common none 43 [.ref 41, .int (nI s), .int (nI t), .int (nI u), .int (nI i), .int (nI j), dmy, dmy, dmy] [] (wA w1 (va_up mf 20 (nI acc.length)) (wrL lf 20 acc)) (some (.int (nI (lcX (S.2.1 t) (S.2.1 u) 0 0)))) (wA w1 (va_up (va_up mf 20 (nI v.length)) s (va_up mf 20 (nI v.length) 20)) (cpF (wrL lf 20 v) s 20 30)) := by
    intro n
    induction n with
    | zero =>
      intro i j acc hi hj hlc hac hend
      have hend : acc = v := hend
      subst hend
      have X3 := X1.sA (va_up mf 20 (nI acc.length)) (wrL lf 20 acc)
      refine e_aload_n dX7_common_43 rfl (pn 44 rfl ?_)
      refine e_get dX7_common_44 fl_X7_34 X3.1.1 rfl (pn 47 rfl ?_)
      refine e_bi (30) dX7_common_47 (by decide) (pn 49 rfl ?_)
      refine e_iload dX7_common_49 rfl (pn 51 rfl ?_)
      refine e_imul dX7_common_51 (pn 52 rfl ?_)
      refine e_iload dX7_common_52 rfl (pn 54 rfl ?_)
      refine e_iadd dX7_common_54 (pn 55 rfl ?_)
      refine e_iald (30 * i + j) dX7_common_55 X3.2.2.2.2 (c30 i j) (by omega) (by omega) (pn 56 rfl ?_)
      rw [V i j hi hj, hlc]
      refine e_if_le 193 dX7_common_56 (by decide) (fun _ => ?_) (fun c_9 => absurd (by decide) c_9)
      refine e_aload_n dX7_common_193 rfl (pn 194 rfl ?_)
      refine e_iload_n dX7_common_194 rfl (pn 195 rfl ?_)
      refine e_bi (20) dX7_common_195 (by decide) (pn 197 rfl ?_)
      refine c_V0 dX7_common_197 ml_X7_69 mv_X7_copies (by decide) CP X3.1.1 rfl rfl (Nat.le_of_ble_eq_true rfl) (pn 200 rfl ?_)
      refine e_aload_n dX7_common_200 rfl (pn 201 rfl ?_)
      refine e_get dX7_common_201 fl_X7_13 X2.1.1 rfl (pn 204 rfl ?_)
      refine e_iload_n dX7_common_204 rfl (pn 205 rfl ?_)
      refine e_iald (s) dX7_common_205 X2.1.2.1 rfl (by omega) (by omega) (pn 206 rfl ?_)
      exact e_iret dX7_common_206 rfl (by rw [up_eq, up_eq, oL]) rfl
    | succ n ih =>
      intro i j acc hi hj hlc hac hend
      have X3 := X1.sA (va_up mf 20 (nI acc.length)) (wrL lf 20 acc)
      have wt3 : wM (va_up mf 20 (nI acc.length)) (wrL lf 20 acc) t (S.2.1 t) := wt.other (by omega) (by omega) _
      have wu3 : wM (va_up mf 20 (nI acc.length)) (wrL lf 20 acc) u (S.2.1 u) := wu.other (by omega) (by omega) _
      have hex := lc_ex hmem (u := S.2.1 u) _ i j n (Nat.le_refl _) hlc
      obtain ⟨f1, f2, f3, f4⟩ := fcL_ok hex (S.1 - 1) 0 (by omega) (fun y hy => by omega)
      rw [fcO] at hend
      refine e_aload_n dX7_common_43 rfl (pn 44 rfl ?_)
      refine e_get dX7_common_44 fl_X7_34 X3.1.1 rfl (pn 47 rfl ?_)
      refine e_bi (30) dX7_common_47 (by decide) (pn 49 rfl ?_)
      refine e_iload dX7_common_49 rfl (pn 51 rfl ?_)
      refine e_imul dX7_common_51 (pn 52 rfl ?_)
      refine e_iload dX7_common_52 rfl (pn 54 rfl ?_)
      refine e_iadd dX7_common_54 (pn 55 rfl ?_)
      refine e_iald (30 * i + j) dX7_common_55 X3.2.2.2.2 (c30 i j) (by omega) (by omega) (pn 56 rfl ?_)
      rw [V i j hi hj, hlc]
      refine e_if_le 193 dX7_common_56 (by decide) (fun c_9 => absurd c_9 (nI_nle (by omega) (by omega))) (fun _ => pn 59 rfl ?_)
      refine e_ic (0) dX7_common_59 (by decide) (pn 60 rfl ?_)
      refine s_i [_, _, _, _, _, _, _, _, _] dX7_common_60 (Nat.le_of_ble_eq_true rfl) rfl (pn 62 rfl ?_)
      refine e_aload_n dX7_common_62 rfl (pn 63 rfl ?_)
      refine e_iload_n dX7_common_63 rfl (pn 64 rfl ?_)
      refine e_iload dX7_common_64 rfl (pn 66 rfl ?_)
      refine e_iload dX7_common_66 rfl (pn 68 rfl ?_)
      refine c_V1 dX7_common_68 ml_X7_129 mv_X7_next (by decide) (q_next X3.1 (show t < 24 by omega) wt3 okt (l := 0) (p := i) (by omega) (by omega)) X3.1.1 rfl rfl (Nat.le_of_ble_eq_true rfl) (pn 71 rfl ?_)
      refine s_i [_, _, _, _, _, _, _, _, _] dX7_common_71 (Nat.le_of_ble_eq_true rfl) rfl (pn 73 rfl ?_)
      refine e_aload_n dX7_common_73 rfl (pn 74 rfl ?_)
      refine e_iload_n dX7_common_74 rfl (pn 75 rfl ?_)
      refine e_iload dX7_common_75 rfl (pn 77 rfl ?_)
      refine e_iload dX7_common_77 rfl (pn 79 rfl ?_)
      refine c_V1 dX7_common_79 ml_X7_129 mv_X7_next (by decide) (q_next X3.1 (show u < 24 by omega) wu3 oku (l := 0) (p := j) (by omega) (by omega)) X3.1.1 rfl rfl (Nat.le_of_ble_eq_true rfl) (pn 82 rfl ?_)
      refine s_i [_, _, _, _, _, _, _, _, _] dX7_common_82 (Nat.le_of_ble_eq_true rfl) rfl (pn 84 rfl ?_)
      refine inner acc (by omega) i j n hi hj (by omega) hlc (S.1 - 1) 0 (by omega) (fun y hy => by omega) ?_
      generalize fcL (S.2.1 t) (S.2.1 u) i j n (S.1 - 1) 0 = l at *
      refine e_aload_n dX7_common_170 rfl (pn 171 rfl ?_)
      refine e_bi (20) dX7_common_171 (by decide) (pn 173 rfl ?_)
      refine e_iload dX7_common_173 rfl (pn 175 rfl ?_)
      refine c_V0 dX7_common_175 ml_X7_61 mv_X7_puts (by decide) (q_put X1.1 (s := 20) (by decide) (v := acc) (by omega) l) X3.1.1 rfl rfl (Nat.le_of_ble_eq_true rfl) (pn 178 rfl ?_)
      refine e_iload dX7_common_178 rfl (pn 180 rfl ?_)
      refine e_ic (1) dX7_common_180 (by decide) (pn 181 rfl ?_)
      refine e_iadd dX7_common_181 (pn 182 rfl ?_)
      refine s_i [_, _, _, _, _, _, _, _, _] dX7_common_182 (Nat.le_of_ble_eq_true rfl) rfl (pn 184 rfl ?_)
      refine e_iload dX7_common_184 rfl (pn 186 rfl ?_)
      refine e_ic (1) dX7_common_186 (by decide) (pn 187 rfl ?_)
      refine e_iadd dX7_common_187 (pn 188 rfl ?_)
      refine s_i [_, _, _, _, _, _, _, _, _] dX7_common_188 (Nat.le_of_ble_eq_true rfl) rfl (pn 190 rfl ?_)
      refine e_goto 43 dX7_common_190 (by decide) ?_
      rw [nI_1, nI_1]
      refine e_dr [_, _, _, _, _, _, _, _, _] 6 rfl (e_dr [_, _, _, _, _, _, _, _, _] 7 rfl (e_dr [_, _, _, _, _, _, _, _, _] 8 rfl ?_))
      exact ih _ _ _ (by omega) (by omega) f4 (by simp; omega) hend
  refine cw_of (M := mX7_common) fx_X7_common (lv := [.ref 41, .int (nI s), .int (nI t), .int (nI u), dmy, dmy, dmy, dmy, dmy]) rfl (Nat.le_of_ble_eq_true rfl) ?_
  refine e_iload_n dX7_common_0 rfl (pn 1 rfl ?_)
  refine c_S1 dX7_common_1 ml_X7_53 ms_X7_isRegister (by decide) (q_isR w _) rfl rfl (Nat.le_of_ble_eq_true rfl) (pn 4 rfl ?_)
  rw [iR1 hs]
  refine e_if_eq 21 dX7_common_4 (by decide) (fun c_9 => absurd c_9 (by decide)) (fun _ => pn 7 rfl ?_)
  refine e_iload_n dX7_common_7 rfl (pn 8 rfl ?_)
  refine c_S1 dX7_common_8 ml_X7_53 ms_X7_isRegister (by decide) (q_isR w _) rfl rfl (Nat.le_of_ble_eq_true rfl) (pn 11 rfl ?_)
  rw [iR1 ht]
  refine e_if_eq 21 dX7_common_11 (by decide) (fun c_9 => absurd c_9 (by decide)) (fun _ => pn 14 rfl ?_)
  refine e_iload_n dX7_common_14 rfl (pn 15 rfl ?_)
  refine c_S1 dX7_common_15 ml_X7_53 ms_X7_isRegister (by decide) (q_isR w _) rfl rfl (Nat.le_of_ble_eq_true rfl) (pn 18 rfl ?_)
  rw [iR1 hu]
  refine e_if_ne 23 dX7_common_18 (by decide) (fun _ => ?_) (fun c_9 => absurd c_9 (by decide))
  refine e_aload_n dX7_common_23 rfl (pn 24 rfl ?_)
  refine e_iload_n dX7_common_24 rfl (pn 25 rfl ?_)
  refine e_iload_n dX7_common_25 rfl (pn 26 rfl ?_)
  refine c_V0 dX7_common_26 ml_X7_126 mv_X7_longests (by decide) LG hX.1.1 rfl rfl (Nat.le_of_ble_eq_true rfl) (pn 29 rfl ?_)
  refine e_aload_n dX7_common_29 rfl (pn 30 rfl ?_)
  refine e_get dX7_common_30 fl_X7_13 X1.1.1 rfl (pn 33 rfl ?_)
  refine e_bi (20) dX7_common_33 (by decide) (pn 35 rfl ?_)
  refine e_ic (0) dX7_common_35 (by decide) (pn 36 rfl ?_)
  refine e_iast (20) dX7_common_36 X1.1.2.1 rfl (by decide) (by omega) (pn 37 rfl ?_)
  refine e_ic (0) dX7_common_37 (by decide) (pn 38 rfl ?_)
  refine s_i [_, _, _, _, _, _, _, _, _] dX7_common_38 (Nat.le_of_ble_eq_true rfl) rfl (pn 40 rfl ?_)
  refine e_ic (0) dX7_common_40 (by decide) (pn 41 rfl ?_)
  refine s_i [_, _, _, _, _, _, _, _, _] dX7_common_41 (Nat.le_of_ble_eq_true rfl) rfl (pn 43 rfl ?_)
  have L := outer (lcX (S.2.1 t) (S.2.1 u) 0 0) 0 0 [] (Nat.zero_le _) (Nat.zero_le _) rfl (by simp; omega) hv
  rw [wrL_nil] at L
  refine pw ?_ L
  show w1.set 42 _ = (w1.set 42 _).set 43 _
  rw [set_id (w := w1.set 42 _) (gne (by decide) X1.1.2.2)]
  rfl
theorem M_cms0 (w : Wd) {s t : Int32} (h : ¬ (rOK s ∧ rOK t)) : CW mX7_commons [.ref 41, .int s, .int t] w (some (.long (-1))) w := by
  refine cw_of (M := mX7_commons) fx_X7_commons (lv := [.ref 41, .int s, .int t, dmy, dmy, dmy, dmy, dmy, dmy, dmy, dmy]) rfl (Nat.le_of_ble_eq_true rfl) ?_
  refine e_iload_n dX7_commons_0 rfl (pn 1 rfl ?_)
  refine c_S1 dX7_commons_1 ml_X7_53 ms_X7_isRegister (by decide) (q_isR w s) rfl rfl (Nat.le_of_ble_eq_true rfl) (pn 4 rfl ?_)
  rcases r2_cases h with hs | ⟨hs, ht⟩
  · rw [iR0 hs]
    refine e_if_eq 14 dX7_commons_4 (by decide) (fun _ => ?_) (fun c_9 => absurd (by decide) c_9)
    refine e_ldc2 dX7_commons_14 lk_X7_124 (pn 17 rfl ?_)
    exact e_lret dX7_commons_17 rfl rfl rfl
  · rw [iRp hs]
    refine e_if_eq 14 dX7_commons_4 (by decide) (fun c_9 => absurd c_9 (by decide)) (fun _ => pn 7 rfl ?_)
    refine e_iload_n dX7_commons_7 rfl (pn 8 rfl ?_)
    refine c_S1 dX7_commons_8 ml_X7_53 ms_X7_isRegister (by decide) (q_isR w t) rfl rfl (Nat.le_of_ble_eq_true rfl) (pn 11 rfl ?_)
    rw [iR0 ht]
    refine e_if_ne 18 dX7_commons_11 (by decide) (fun c_9 => absurd c_9 (by decide)) (fun _ => pn 14 rfl ?_)
    refine e_ldc2 dX7_commons_14 lk_X7_124 (pn 17 rfl ?_)
    exact e_lret dX7_commons_17 rfl rfl rfl
/-- how many go on from here -/
abbrev cmC (t u : List Nat) (i j l : Nat) : Prop := 0 < lcX t u i j ∧ nxW t l i < t.length ∧ nxW u l j < u.length ∧ lcX t u (nxW t l i + 1) (nxW u l j + 1) + 1 = lcX t u i j
def cmS (g : Nat → Int64) (t u : List Nat) (i j : Nat) : Nat → Int64
  | 0 => if lcX t u i j = 0 then 1 else 0
  | l + 1 => cmS g t u i j l + (if cmC t u i j l then g (30 * (nxW t l i + 1) + (nxW u l j + 1)) else 0)
theorem M_cms1 {w : Wd} {S : St} (h : MI w S) {t u : Nat} (ht : t < 12) (hu : u < 12) : ∃ (g : Nat → Int64) (w2 : Wd), CW mX7_commons [.ref 41, .int (nI t), .int (nI u)] w (some (.long (tbO (fun g i j => cmS g (S.2.1 t) (S.2.1 u) i j S.1) (fun i j => 30 * i + j) ((S.2.1 u).length + 1) ((S.2.1 t).length + 1) g 0))) w2 ∧ FM w w2 ∧ MI w2 S := by
  obtain ⟨hS, x, mf, lf, E, nl, g, f, hX, hW, hE⟩ := h
  have hq := hS.1
  have okt := hS.w ht
  have oku := hS.w hu
  have b1 := okt.1
  have b2 := oku.1
  have X1 := hX.s47 (mlO (S.2.1 t) (S.2.1 u) ((S.2.1 t).length + 1) f)
  have F1 := hX.F47 (FM.rf w) (mlO (S.2.1 t) (S.2.1 u) ((S.2.1 t).length + 1) f)
  have LG := q_longests (MI.mT hS hX hW ht hu) hX.2.2.2.2
  have V : ∀ i j, i ≤ (S.2.1 t).length → j ≤ (S.2.1 u).length → mlO (S.2.1 t) (S.2.1 u) ((S.2.1 t).length + 1) f (30 * i + j) = nI (lcX (S.2.1 t) (S.2.1 u) i j) := fun i j hi hj => mlO_v b1 b2 f hi hj
  have wt := hW.1 t ht
  have wu := hW.1 u hu
  generalize hF : mlO (S.2.1 t) (S.2.1 u) ((S.2.1 t).length + 1) f = F at *
  generalize hw1 : w.set 47 (aI 900 F) = w1 at *
  refine ⟨g, w1.set 46 (aJ 900 (tbO (fun g i j => cmS g (S.2.1 t) (S.2.1 u) i j S.1) (fun i j => 30 * i + j) ((S.2.1 u).length + 1) ((S.2.1 t).length + 1) g)), ?_, X1.F46 F1 _, hS, x, mf, lf, E, nl, _, F, X1.s46 _, hW, hE⟩
  have cell : ∀ {r : Option Value} {w' : Wd} (i j : Nat) (G : Nat → Int64), i ≤ (S.2.1 t).length → j ≤ (S.2.1 u).length → EW mX7_commons none 43 [.ref 41, .int (nI t), .int (nI u), .int (nI i), .int (nI j + (-1)), dmy, dmy, dmy, dmy, dmy, dmy] [] (w1.set 46 (aJ 900 (va_up G (30 * i + j) (cmS G (S.2.1 t) (S.2.1 u) i j S.1)))) r w' → EW mX7_commons none 48 [.ref 41, .int (nI t), .int (nI u), .int (nI i), .int (nI j), dmy, dmy, dmy, dmy, dmy, dmy] [] (w1.set 46 (aJ 900 G)) r w' := by
    intro r w' i j G hi hj K
    have X3 := X1.s46 G
    have l9 := lcX_le (S.2.1 t) (S.2.1 u) i j
    have loop : ∀ (c l : Nat), l + c = S.1 → EW mX7_commons none 73 [.ref 41, .int (nI t), .int (nI u), .int (nI i), .int (nI j), .long (cmS G (S.2.1 t) (S.2.1 u) i j l), dmy, .int (nI l), dmy, dmy, dmy] [] (w1.set 46 (aJ 900 G)) r w' := by
      intro c
      induction c with
      | zero =>
        intro l hl
        have e : l = S.1 := by omega
        subst e
        refine e_iload dX7_commons_73 rfl (pn 75 rfl ?_)
        refine e_aload_n dX7_commons_75 rfl (pn 76 rfl ?_)
        refine e_get dX7_commons_76 fl_X7_7 X3.1.1 rfl (pn 79 rfl ?_)
        refine e_icmp_ge 220 dX7_commons_79 (by decide) (fun _ => ?_) (fun c_9 => absurd (nI_le (Nat.le_refl S.1) (by omega)) c_9)
        refine e_aload_n dX7_commons_220 rfl (pn 221 rfl ?_)
        refine e_get dX7_commons_221 fl_X7_30 X3.1.1 rfl (pn 224 rfl ?_)
        refine e_bi (30) dX7_commons_224 (by decide) (pn 226 rfl ?_)
        refine e_iload_n dX7_commons_226 rfl (pn 227 rfl ?_)
        refine e_imul dX7_commons_227 (pn 228 rfl ?_)
        refine e_iload dX7_commons_228 rfl (pn 230 rfl ?_)
        refine e_iadd dX7_commons_230 (pn 231 rfl ?_)
        refine e_lload dX7_commons_231 rfl (pn 233 rfl ?_)
        refine e_last (30 * i + j) dX7_commons_233 X3.2.2.2.1 (c30 i j) (by omega) (by omega) (pn 234 rfl ?_)
        rw [List.set_set]
        refine s_inc [_, _, _, _, _, _, _, _, _, _, _] (-1) dX7_commons_234 (by decide) rfl (Nat.le_of_ble_eq_true rfl) rfl (pn 237 rfl ?_)
        refine e_goto 43 dX7_commons_237 (by decide) ?_
        exact e_dr [_, _, _, _, _, _, _, _, _, _, _] 5 rfl (e_dr [_, _, _, _, _, _, _, _, _, _, _] 7 rfl K)
      | succ c ih =>
        intro l hl
        have n1 := nxW_le (S.2.1 t) l i
        have n2 := nxW_le (S.2.1 u) l j
        have KK := ih (l + 1) (by omega)
        rw [cmS] at KK
        refine e_iload dX7_commons_73 rfl (pn 75 rfl ?_)
        refine e_aload_n dX7_commons_75 rfl (pn 76 rfl ?_)
        refine e_get dX7_commons_76 fl_X7_7 X3.1.1 rfl (pn 79 rfl ?_)
        refine e_icmp_ge 220 dX7_commons_79 (by decide) (fun c_9 => absurd c_9 (nI_ge (show l < S.1 by omega) (show S.1 < 2 ^ 31 by omega))) (fun _ => pn 82 rfl ?_)
        refine e_aload_n dX7_commons_82 rfl (pn 83 rfl ?_)
        refine e_iload_n dX7_commons_83 rfl (pn 84 rfl ?_)
        refine e_iload_n dX7_commons_84 rfl (pn 85 rfl ?_)
        refine e_iload dX7_commons_85 rfl (pn 87 rfl ?_)
        refine c_V1 dX7_commons_87 ml_X7_129 mv_X7_next (by decide) (q_next X3.1 (show t < 24 by omega) wt okt (l := l) (p := i) (by omega) (by omega)) X3.1.1 rfl rfl (Nat.le_of_ble_eq_true rfl) (pn 90 rfl ?_)
        refine s_i [_, _, _, _, _, _, _, _, _, _, _] dX7_commons_90 (Nat.le_of_ble_eq_true rfl) rfl (pn 92 rfl ?_)
        refine e_aload_n dX7_commons_92 rfl (pn 93 rfl ?_)
        refine e_iload_n dX7_commons_93 rfl (pn 94 rfl ?_)
        refine e_iload dX7_commons_94 rfl (pn 96 rfl ?_)
        refine e_iload dX7_commons_96 rfl (pn 98 rfl ?_)
        refine c_V1 dX7_commons_98 ml_X7_129 mv_X7_next (by decide) (q_next X3.1 (show u < 24 by omega) wu oku (l := l) (p := j) (by omega) (by omega)) X3.1.1 rfl rfl (Nat.le_of_ble_eq_true rfl) (pn 101 rfl ?_)
        refine s_i [_, _, _, _, _, _, _, _, _, _, _] dX7_commons_101 (Nat.le_of_ble_eq_true rfl) rfl (pn 103 rfl ?_)
        refine e_aload_n dX7_commons_103 rfl (pn 104 rfl ?_)
        refine e_get dX7_commons_104 fl_X7_34 X3.1.1 rfl (pn 107 rfl ?_)
        refine e_bi (30) dX7_commons_107 (by decide) (pn 109 rfl ?_)
        refine e_iload_n dX7_commons_109 rfl (pn 110 rfl ?_)
        refine e_imul dX7_commons_110 (pn 111 rfl ?_)
        refine e_iload dX7_commons_111 rfl (pn 113 rfl ?_)
        refine e_iadd dX7_commons_113 (pn 114 rfl ?_)
        refine e_iald (30 * i + j) dX7_commons_114 X3.2.2.2.2 (c30 i j) (by omega) (by omega) (pn 115 rfl ?_)
        rw [V i j hi hj]
        have no : ¬ cmC (S.2.1 t) (S.2.1 u) i j l → EW mX7_commons none 179 [.ref 41, .int (nI t), .int (nI u), .int (nI i), .int (nI j), .long (cmS G (S.2.1 t) (S.2.1 u) i j l), dmy, .int (nI l), .int (nI (nxW (S.2.1 t) l i)), .int (nI (nxW (S.2.1 u) l j)), dmy] [] (w1.set 46 (aJ 900 G)) r w' := by
          intro hno
          rw [if_neg hno] at KK
          refine e_ic (0) dX7_commons_179 (by decide) (pn 180 rfl ?_)
          refine s_i [_, _, _, _, _, _, _, _, _, _, _] dX7_commons_180 (Nat.le_of_ble_eq_true rfl) rfl (pn 182 rfl ?_)
          refine e_lload dX7_commons_182 rfl (pn 184 rfl ?_)
          refine e_iload dX7_commons_184 rfl (pn 186 rfl ?_)
          refine e_if_eq 210 dX7_commons_186 (by decide) (fun _ => ?_) (fun c_9 => absurd (by decide) c_9)
          refine e_lc (0) dX7_commons_210 (by decide) (pn 211 rfl ?_)
          refine e_ladd dX7_commons_211 (pn 212 rfl ?_)
          refine s_l [_, _, _, _, _, _, _, _, _, _, _] dX7_commons_212 (Nat.le_of_ble_eq_true rfl) rfl (pn 214 rfl ?_)
          refine s_inc [_, _, _, _, _, _, _, _, _, _, _] (1) dX7_commons_214 (by decide) rfl (Nat.le_of_ble_eq_true rfl) rfl (pn 217 rfl ?_)
          refine e_goto 73 dX7_commons_217 (by decide) ?_
          rw [nI_1]
          exact e_dr [_, _, _, _, _, _, _, _, _, _, _] 8 rfl (e_dr [_, _, _, _, _, _, _, _, _, _, _] 9 rfl (e_dr [_, _, _, _, _, _, _, _, _, _, _] 10 rfl KK))
        by_cases h0 : 0 < lcX (S.2.1 t) (S.2.1 u) i j
        · refine e_if_le 179 dX7_commons_115 (by decide) (fun c_9 => absurd c_9 (nI_nle h0 (by omega))) (fun _ => pn 118 rfl ?_)
          refine e_iload dX7_commons_118 rfl (pn 120 rfl ?_)
          refine e_aload_n dX7_commons_120 rfl (pn 121 rfl ?_)
          refine e_get dX7_commons_121 fl_X7_13 X3.1.1 rfl (pn 124 rfl ?_)
          refine e_iload_n dX7_commons_124 rfl (pn 125 rfl ?_)
          refine e_iald (t) dX7_commons_125 X3.1.2.1 rfl (by omega) (by omega) (pn 126 rfl ?_)
          rw [wt.1]
          by_cases h1 : nxW (S.2.1 t) l i < (S.2.1 t).length
          · refine e_icmp_ge 179 dX7_commons_126 (by decide) (fun c_9 => absurd c_9 (nI_ge h1 (by omega))) (fun _ => pn 129 rfl ?_)
            refine e_iload dX7_commons_129 rfl (pn 131 rfl ?_)
            refine e_aload_n dX7_commons_131 rfl (pn 132 rfl ?_)
            refine e_get dX7_commons_132 fl_X7_13 X3.1.1 rfl (pn 135 rfl ?_)
            refine e_iload_n dX7_commons_135 rfl (pn 136 rfl ?_)
            refine e_iald (u) dX7_commons_136 X3.1.2.1 rfl (by omega) (by omega) (pn 137 rfl ?_)
            rw [wu.1]
            by_cases h2 : nxW (S.2.1 u) l j < (S.2.1 u).length
            · refine e_icmp_ge 179 dX7_commons_137 (by decide) (fun c_9 => absurd c_9 (nI_ge h2 (by omega))) (fun _ => pn 140 rfl ?_)
              refine e_aload_n dX7_commons_140 rfl (pn 141 rfl ?_)
              refine e_get dX7_commons_141 fl_X7_34 X3.1.1 rfl (pn 144 rfl ?_)
              refine e_bi (30) dX7_commons_144 (by decide) (pn 146 rfl ?_)
              refine e_iload dX7_commons_146 rfl (pn 148 rfl ?_)
              refine e_imul dX7_commons_148 (pn 149 rfl ?_)
              refine e_bi (30) dX7_commons_149 (by decide) (pn 151 rfl ?_)
              refine e_iadd dX7_commons_151 (pn 152 rfl ?_)
              refine e_iload dX7_commons_152 rfl (pn 154 rfl ?_)
              refine e_iadd dX7_commons_154 (pn 155 rfl ?_)
              refine e_ic (1) dX7_commons_155 (by decide) (pn 156 rfl ?_)
              refine e_iadd dX7_commons_156 (pn 157 rfl ?_)
              refine e_iald (30 * nxW (S.2.1 t) l i + 30 + nxW (S.2.1 u) l j + 1) dX7_commons_157 X3.2.2.2.2 (d301 _ _) (by omega) (by omega) (pn 158 rfl ?_)
              refine e_ic (1) dX7_commons_158 (by decide) (pn 159 rfl ?_)
              refine e_iadd dX7_commons_159 (pn 160 rfl ?_)
              refine e_aload_n dX7_commons_160 rfl (pn 161 rfl ?_)
              refine e_get dX7_commons_161 fl_X7_34 X3.1.1 rfl (pn 164 rfl ?_)
              refine e_bi (30) dX7_commons_164 (by decide) (pn 166 rfl ?_)
              refine e_iload_n dX7_commons_166 rfl (pn 167 rfl ?_)
              refine e_imul dX7_commons_167 (pn 168 rfl ?_)
              refine e_iload dX7_commons_168 rfl (pn 170 rfl ?_)
              refine e_iadd dX7_commons_170 (pn 171 rfl ?_)
              refine e_iald (30 * i + j) dX7_commons_171 X3.2.2.2.2 (c30 i j) (by omega) (by omega) (pn 172 rfl ?_)
              have m9 := lcX_le (S.2.1 t) (S.2.1 u) (nxW (S.2.1 t) l i + 1) (nxW (S.2.1 u) l j + 1)
              rw [show 30 * nxW (S.2.1 t) l i + 30 + nxW (S.2.1 u) l j + 1 = 30 * (nxW (S.2.1 t) l i + 1) + (nxW (S.2.1 u) l j + 1) by omega, V (nxW (S.2.1 t) l i + 1) (nxW (S.2.1 u) l j + 1) (by omega) (by omega), V i j hi hj, nI_1]
              by_cases h3 : lcX (S.2.1 t) (S.2.1 u) (nxW (S.2.1 t) l i + 1) (nxW (S.2.1 u) l j + 1) + 1 = lcX (S.2.1 t) (S.2.1 u) i j
              · rw [if_pos ⟨h0, h1, h2, h3⟩] at KK
                refine e_icmp_ne 179 dX7_commons_172 (by decide) (fun c_9 => absurd c_9 (fun e => e (by rw [h3]))) (fun _ => pn 175 rfl ?_)
                refine e_ic (1) dX7_commons_175 (by decide) (pn 176 rfl ?_)
                refine e_goto 180 dX7_commons_176 (by decide) ?_
                refine s_i [_, _, _, _, _, _, _, _, _, _, _] dX7_commons_180 (Nat.le_of_ble_eq_true rfl) rfl (pn 182 rfl ?_)
                refine e_lload dX7_commons_182 rfl (pn 184 rfl ?_)
                refine e_iload dX7_commons_184 rfl (pn 186 rfl ?_)
                refine e_if_eq 210 dX7_commons_186 (by decide) (fun c_9 => absurd c_9 (by decide)) (fun _ => pn 189 rfl ?_)
                refine e_aload_n dX7_commons_189 rfl (pn 190 rfl ?_)
                refine e_get dX7_commons_190 fl_X7_30 X3.1.1 rfl (pn 193 rfl ?_)
                refine e_bi (30) dX7_commons_193 (by decide) (pn 195 rfl ?_)
                refine e_iload dX7_commons_195 rfl (pn 197 rfl ?_)
                refine e_imul dX7_commons_197 (pn 198 rfl ?_)
                refine e_bi (30) dX7_commons_198 (by decide) (pn 200 rfl ?_)
                refine e_iadd dX7_commons_200 (pn 201 rfl ?_)
                refine e_iload dX7_commons_201 rfl (pn 203 rfl ?_)
                refine e_iadd dX7_commons_203 (pn 204 rfl ?_)
                refine e_ic (1) dX7_commons_204 (by decide) (pn 205 rfl ?_)
                refine e_iadd dX7_commons_205 (pn 206 rfl ?_)
                refine e_lald (30 * (nxW (S.2.1 t) l i + 1) + (nxW (S.2.1 u) l j + 1)) dX7_commons_206 X3.2.2.2.1 (by rw [d301]; congr 1) (by omega) (by omega) (pn 207 rfl ?_)
                refine e_goto 211 dX7_commons_207 (by decide) ?_
                refine e_ladd dX7_commons_211 (pn 212 rfl ?_)
                refine s_l [_, _, _, _, _, _, _, _, _, _, _] dX7_commons_212 (Nat.le_of_ble_eq_true rfl) rfl (pn 214 rfl ?_)
                refine s_inc [_, _, _, _, _, _, _, _, _, _, _] (1) dX7_commons_214 (by decide) rfl (Nat.le_of_ble_eq_true rfl) rfl (pn 217 rfl ?_)
                refine e_goto 73 dX7_commons_217 (by decide) ?_
                rw [nI_1]
                exact e_dr [_, _, _, _, _, _, _, _, _, _, _] 8 rfl (e_dr [_, _, _, _, _, _, _, _, _, _, _] 9 rfl (e_dr [_, _, _, _, _, _, _, _, _, _, _] 10 rfl KK))
              · refine e_icmp_ne 179 dX7_commons_172 (by decide) (fun _ => ?_) (fun c_9 => absurd c_9 (fun e => h3 ((nI_eq (by omega) (by omega)).mp e)))
                exact no (fun e => h3 e.2.2.2)
            · refine e_icmp_ge 179 dX7_commons_137 (by decide) (fun _ => ?_) (fun c_9 => absurd (nI_le (by omega) (by omega)) c_9)
              exact no (fun e => h2 e.2.2.1)
          · refine e_icmp_ge 179 dX7_commons_126 (by decide) (fun _ => ?_) (fun c_9 => absurd (nI_le (by omega) (by omega)) c_9)
            exact no (fun e => h1 e.2.1)
        · refine e_if_le 179 dX7_commons_115 (by decide) (fun _ => ?_) (fun c_9 => absurd (by rw [Nat.eq_zero_of_not_pos h0]; decide) c_9)
          exact no (fun e => h0 e.1)
    refine e_aload_n dX7_commons_48 rfl (pn 49 rfl ?_)
    refine e_get dX7_commons_49 fl_X7_34 X3.1.1 rfl (pn 52 rfl ?_)
    refine e_bi (30) dX7_commons_52 (by decide) (pn 54 rfl ?_)
    refine e_iload_n dX7_commons_54 rfl (pn 55 rfl ?_)
    refine e_imul dX7_commons_55 (pn 56 rfl ?_)
    refine e_iload dX7_commons_56 rfl (pn 58 rfl ?_)
    refine e_iadd dX7_commons_58 (pn 59 rfl ?_)
    refine e_iald (30 * i + j) dX7_commons_59 X3.2.2.2.2 (c30 i j) (by omega) (by omega) (pn 60 rfl ?_)
    rw [V i j hi hj]
    by_cases h0 : lcX (S.2.1 t) (S.2.1 u) i j = 0
    · refine e_if_ne 67 dX7_commons_60 (by decide) (fun c_9 => absurd c_9 (fun e => e (by rw [h0]; rfl))) (fun _ => pn 63 rfl ?_)
      refine e_lc (1) dX7_commons_63 (by decide) (pn 64 rfl ?_)
      refine e_goto 68 dX7_commons_64 (by decide) ?_
      refine s_l [_, _, _, _, _, _, _, _, _, _, _] dX7_commons_68 (Nat.le_of_ble_eq_true rfl) rfl (pn 70 rfl ?_)
      refine e_ic (0) dX7_commons_70 (by decide) (pn 71 rfl ?_)
      refine s_i [_, _, _, _, _, _, _, _, _, _, _] dX7_commons_71 (Nat.le_of_ble_eq_true rfl) rfl (pn 73 rfl ?_)
      have L := loop S.1 0 (by omega)
      rw [cmS, if_pos h0] at L
      exact L
    · refine e_if_ne 67 dX7_commons_60 (by decide) (fun _ => ?_) (fun c_9 => absurd c_9 (nI_ne0 (Nat.pos_of_ne_zero h0) (by omega)))
      refine e_lc (0) dX7_commons_67 (by decide) (pn 68 rfl ?_)
      refine s_l [_, _, _, _, _, _, _, _, _, _, _] dX7_commons_68 (Nat.le_of_ble_eq_true rfl) rfl (pn 70 rfl ?_)
      refine e_ic (0) dX7_commons_70 (by decide) (pn 71 rfl ?_)
      refine s_i [_, _, _, _, _, _, _, _, _, _, _] dX7_commons_71 (Nat.le_of_ble_eq_true rfl) rfl (pn 73 rfl ?_)
      have L := loop S.1 0 (by omega)
      rw [cmS, if_neg h0] at L
      exact L
  have inner : ∀ {r : Option Value} {w' : Wd} (i : Nat), i ≤ (S.2.1 t).length → ∀ (k : Nat) (G : Nat → Int64), k ≤ (S.2.1 u).length + 1 → EW mX7_commons none 240 [.ref 41, .int (nI t), .int (nI u), .int (nI i), dmy, dmy, dmy, dmy, dmy, dmy, dmy] [] (w1.set 46 (aJ 900 (tbI (fun g i j => cmS g (S.2.1 t) (S.2.1 u) i j S.1) (fun i j => 30 * i + j) i k G))) r w' → EW mX7_commons none 43 [.ref 41, .int (nI t), .int (nI u), .int (nI i), .int (nI k + (-1)), dmy, dmy, dmy, dmy, dmy, dmy] [] (w1.set 46 (aJ 900 G)) r w' := by
    intro r w' i hi k
    induction k with
    | zero =>
      intro G hk K
      refine e_iload dX7_commons_43 rfl (pn 45 rfl ?_)
      refine e_if_lt 240 dX7_commons_45 (by decide) (fun _ => ?_) (fun c_9 => absurd ((m1_lt 0 (by decide)).mpr rfl) c_9)
      exact e_dr [_, _, _, _, _, _, _, _, _, _, _] 4 rfl K
    | succ k ih =>
      intro G hk K
      simp only [pk_m1]
      refine e_iload dX7_commons_43 rfl (pn 45 rfl ?_)
      refine e_if_lt 240 dX7_commons_45 (by decide) (fun c_9 => absurd c_9 (nI_pos (by omega))) (fun _ => pn 48 rfl ?_)
      exact cell i k G hi (by omega) (ih _ (by omega) K)
  have outer : ∀ {r : Option Value} {w' : Wd} (k : Nat) (G : Nat → Int64), k ≤ (S.2.1 t).length + 1 → EW mX7_commons none 246 [.ref 41, .int (nI t), .int (nI u), dmy, dmy, dmy, dmy, dmy, dmy, dmy, dmy] [] (w1.set 46 (aJ 900 (tbO (fun g i j => cmS g (S.2.1 t) (S.2.1 u) i j S.1) (fun i j => 30 * i + j) ((S.2.1 u).length + 1) k G))) r w' → EW mX7_commons none 31 [.ref 41, .int (nI t), .int (nI u), .int (nI k + (-1)), dmy, dmy, dmy, dmy, dmy, dmy, dmy] [] (w1.set 46 (aJ 900 G)) r w' := by
    intro r w' k
    induction k with
    | zero =>
      intro G hk K
      refine e_iload_n dX7_commons_31 rfl (pn 32 rfl ?_)
      refine e_if_lt 246 dX7_commons_32 (by decide) (fun _ => ?_) (fun c_9 => absurd ((m1_lt 0 (by decide)).mpr rfl) c_9)
      exact e_dr [_, _, _, _, _, _, _, _, _, _, _] 3 rfl K
    | succ k ih =>
      intro G hk K
      have X3 := X1.s46 G
      simp only [pk_m1]
      refine e_iload_n dX7_commons_31 rfl (pn 32 rfl ?_)
      refine e_if_lt 246 dX7_commons_32 (by decide) (fun c_9 => absurd c_9 (nI_pos (by omega))) (fun _ => pn 35 rfl ?_)
      refine e_aload_n dX7_commons_35 rfl (pn 36 rfl ?_)
      refine e_get dX7_commons_36 fl_X7_13 X3.1.1 rfl (pn 39 rfl ?_)
      refine e_iload_n dX7_commons_39 rfl (pn 40 rfl ?_)
      refine e_iald (u) dX7_commons_40 X3.1.2.1 rfl (by omega) (by omega) (pn 41 rfl ?_)
      refine s_i [_, _, _, _, _, _, _, _, _, _, _] dX7_commons_41 (Nat.le_of_ble_eq_true rfl) rfl (pn 43 rfl ?_)
      rw [wu.1, ← pk_m1 (S.2.1 u).length]
      refine inner k (by omega) ((S.2.1 u).length + 1) G (Nat.le_refl _) ?_
      refine s_inc [_, _, _, _, _, _, _, _, _, _, _] (-1) dX7_commons_240 (by decide) rfl (Nat.le_of_ble_eq_true rfl) rfl (pn 243 rfl ?_)
      refine e_goto 31 dX7_commons_243 (by decide) ?_
      exact ih _ (by omega) K
  refine cw_of (M := mX7_commons) fx_X7_commons (lv := [.ref 41, .int (nI t), .int (nI u), dmy, dmy, dmy, dmy, dmy, dmy, dmy, dmy]) rfl (Nat.le_of_ble_eq_true rfl) ?_
  refine e_iload_n dX7_commons_0 rfl (pn 1 rfl ?_)
  refine c_S1 dX7_commons_1 ml_X7_53 ms_X7_isRegister (by decide) (q_isR w _) rfl rfl (Nat.le_of_ble_eq_true rfl) (pn 4 rfl ?_)
  rw [iR1 ht]
  refine e_if_eq 14 dX7_commons_4 (by decide) (fun c_9 => absurd c_9 (by decide)) (fun _ => pn 7 rfl ?_)
  refine e_iload_n dX7_commons_7 rfl (pn 8 rfl ?_)
  refine c_S1 dX7_commons_8 ml_X7_53 ms_X7_isRegister (by decide) (q_isR w _) rfl rfl (Nat.le_of_ble_eq_true rfl) (pn 11 rfl ?_)
  rw [iR1 hu]
  refine e_if_ne 18 dX7_commons_11 (by decide) (fun _ => ?_) (fun c_9 => absurd c_9 (by decide))
  refine e_aload_n dX7_commons_18 rfl (pn 19 rfl ?_)
  refine e_iload_n dX7_commons_19 rfl (pn 20 rfl ?_)
  refine e_iload_n dX7_commons_20 rfl (pn 21 rfl ?_)
  refine c_V0 dX7_commons_21 ml_X7_126 mv_X7_longests (by decide) LG hX.1.1 rfl rfl (Nat.le_of_ble_eq_true rfl) (pn 24 rfl ?_)
  refine e_aload_n dX7_commons_24 rfl (pn 25 rfl ?_)
  refine e_get dX7_commons_25 fl_X7_13 X1.1.1 rfl (pn 28 rfl ?_)
  refine e_iload_n dX7_commons_28 rfl (pn 29 rfl ?_)
  refine e_iald (t) dX7_commons_29 X1.1.2.1 rfl (by omega) (by omega) (pn 30 rfl ?_)
  refine s_in [_, _, _, _, _, _, _, _, _, _, _] dX7_commons_30 (Nat.le_of_ble_eq_true rfl) rfl (pn 31 rfl ?_)
  rw [wt.1, ← pk_m1 (S.2.1 t).length]
  refine pw (set_id X1.2.2.2.1).symm ?_
  refine outer ((S.2.1 t).length + 1) g (Nat.le_refl _) ?_
  have X4 := X1.s46 (tbO (fun g i j => cmS g (S.2.1 t) (S.2.1 u) i j S.1) (fun i j => 30 * i + j) ((S.2.1 u).length + 1) ((S.2.1 t).length + 1) g)
  refine e_aload_n dX7_commons_246 rfl (pn 247 rfl ?_)
  refine e_get dX7_commons_247 fl_X7_30 X4.1.1 rfl (pn 250 rfl ?_)
  refine e_ic (0) dX7_commons_250 (by decide) (pn 251 rfl ?_)
  refine e_lald (0) dX7_commons_251 X4.2.2.2.1 rfl (by decide) (by omega) (pn 252 rfl ?_)
  exact e_lret dX7_commons_252 rfl rfl rfl
