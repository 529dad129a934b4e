/-! LostLettersModel: next, tables of two words -/
/-- two words in the model -/
def mT (w : Wd) (D : Md) (mf lf : Nat → Int32) (s t : Nat) (u v : List Nat) : Prop := mB w D mf lf ∧ (s < 24 ∧ wM mf lf s u ∧ okW u) ∧ t < 24 ∧ wM mf lf t v ∧ okW v
theorem q_next {w : Wd} {D : Md} {mf lf : Nat → Int32} (h : mB w D mf lf) {s : Nat} (hs : s < 24) {u : List Nat} (hu : wM mf lf s u) (ok : okW u) {l p : Nat} (hl : l < 2 ^ 31) (hp : p < 2 ^ 30) : CW mX7_next [.ref 41, .int (nI s), .int (nI p), .int (nI l)] w (some (.int (nI (nxW u l p)))) w := by
  have h24 := ok.1
  have h4 := okL_get ok.2
  have loop : ∀ (f p0 p : Nat), u.length - p ≤ f → p < 2 ^ 30 → EW mX7_next none 3 [.ref 41, .int (nI s), .int (nI p0), .int (nI l), .int (nI p)] [] w (some (.int (nI (nxF u l f p)))) w := by
    intro f p0
    induction f with
    | zero =>
      intro p hp hp24
      refine e_iload dX7_next_3 rfl (pn 5 rfl ?_)
      refine e_aload_n dX7_next_5 rfl (pn 6 rfl ?_)
      refine e_get dX7_next_6 fl_X7_13 h.1 rfl (pn 9 rfl ?_)
      refine e_iload_n dX7_next_9 rfl (pn 10 rfl ?_)
      refine e_iald (s) dX7_next_10 h.2.1 rfl hs (by omega) (pn 11 rfl ?_)
      rw [hu.1]
      refine e_icmp_ge 36 dX7_next_11 (by decide) (fun c11 => ?_) (fun c11 => pn 14 rfl ?_)
      · refine e_iload dX7_next_36 rfl (pn 38 rfl ?_)
        exact e_iret dX7_next_38 rfl rfl rfl
      · exact absurd (nI_le (by omega) (by omega)) c11
    | succ f ih =>
      intro p hp hp24
      refine e_iload dX7_next_3 rfl (pn 5 rfl ?_)
      refine e_aload_n dX7_next_5 rfl (pn 6 rfl ?_)
      refine e_get dX7_next_6 fl_X7_13 h.1 rfl (pn 9 rfl ?_)
      refine e_iload_n dX7_next_9 rfl (pn 10 rfl ?_)
      refine e_iald (s) dX7_next_10 h.2.1 rfl hs (by omega) (pn 11 rfl ?_)
      rw [hu.1]
      refine e_icmp_ge 36 dX7_next_11 (by decide) (fun c11 => ?_) (fun c11 => pn 14 rfl ?_)
      · refine e_iload dX7_next_36 rfl (pn 38 rfl ?_)
        have hc : ¬ p < u.length := fun q => nI_ge q (by omega) c11
        exact e_iret dX7_next_38 rfl (by rw [nxF, if_neg (fun q => hc q.1)]) rfl
      · have hc : p < u.length := Nat.lt_of_not_le (fun q => c11 (nI_le q (by omega)))
        refine e_aload_n dX7_next_14 rfl (pn 15 rfl ?_)
        refine e_get dX7_next_15 fl_X7_17 h.1 rfl (pn 18 rfl ?_)
        refine e_bi (30) dX7_next_18 (by decide) (pn 20 rfl ?_)
        refine e_iload_n dX7_next_20 rfl (pn 21 rfl ?_)
        refine e_imul dX7_next_21 (pn 22 rfl ?_)
        refine e_iload dX7_next_22 rfl (pn 24 rfl ?_)
        refine e_iadd dX7_next_24 (pn 25 rfl ?_)
        refine e_iald (30 * s + p) dX7_next_25 h.2.2 (c30 s p) (by omega) (by omega) (pn 26 rfl ?_)
        rw [hu.2.2 p hc]
        refine e_iload_n dX7_next_26 rfl (pn 27 rfl ?_)
        refine e_icmp_eq 36 dX7_next_27 (by decide) (fun c27 => ?_) (fun c27 => pn 30 rfl ?_)
        · refine e_iload dX7_next_36 rfl (pn 38 rfl ?_)
          have e := (nI_eq (by have := h4 p; omega) hl).mp c27
          exact e_iret dX7_next_38 rfl (by rw [nxF, if_neg (fun q => q.2 e)]) rfl
        · refine s_inc [_, _, _, _, _] (1) dX7_next_30 (by decide) rfl (Nat.le_of_ble_eq_true rfl) rfl (pn 33 rfl ?_)
          refine e_goto 3 dX7_next_33 (by decide) ?_
          have e : nxF u l (f + 1) p = nxF u l f (p + 1) := by rw [nxF, if_pos ⟨hc, fun q => c27 (by rw [q])⟩]
          rw [e, nI_1]
          exact ih (p + 1) (by omega) (by omega)
  refine cw_of (M := mX7_next) fx_X7_next (lv := [.ref 41, .int (nI s), .int (nI p), .int (nI l), dmy]) rfl (Nat.le_of_ble_eq_true rfl) ?_
  refine e_iload_n dX7_next_0 rfl (pn 1 rfl ?_)
  refine s_i [_, _, _, _, _] dX7_next_1 (Nat.le_of_ble_eq_true rfl) rfl (pn 3 rfl ?_)
  exact loop _ p p (Nat.le_refl _) hp
theorem d30 (i j : Nat) : (30 : Int32) * nI i + 30 + nI j = nI (30 * i + 30 + j) := by rw [show (30 : Int32) = nI 30 from rfl, pk_mul, nI_add, nI_add]
theorem d301 (i j : Nat) : (30 : Int32) * nI i + 30 + nI j + 1 = nI (30 * i + 30 + j + 1) := by rw [d30, nI_1]
theorem c301 (i j : Nat) : (30 : Int32) * nI i + nI j + 1 = nI (30 * i + j + 1) := by rw [c30, nI_1]
def mlV (f : Nat → Int32) (u v : List Nat) (i j : Nat) : Int32 :=
  if i < u.length ∧ j < v.length then (if u.getD i 0 = v.getD j 0 then f (30 * i + 30 + j + 1) + 1 else if f (30 * i + 30 + j) ≤ f (30 * i + j + 1) then f (30 * i + j + 1) else f (30 * i + 30 + j)) else 0
theorem ml_cell {w : Wd} {D : Md} {mf lf : Nat → Int32} {s t : Nat} {u v : List Nat} (h : mT w D mf lf s t u v) {f0 : Nat → Int32} (hf : w[47]? = some (aI 900 f0)) {r : Option Value} {w' : Wd} {i j : Nat} (hi : i ≤ u.length) (hj : j ≤ v.length) (f : Nat → Int32) (K : EW mX7_longests none 19 [.ref 41, .int (nI s), .int (nI t), .int (nI i), .int (nI j + (-1)), dmy, dmy, dmy] [] (w.set 47 (aI 900 (va_up f (30 * i + j) (mlV f u v i j)))) r w') : EW mX7_longests none 24 [.ref 41, .int (nI s), .int (nI t), .int (nI i), .int (nI j), dmy, dmy, dmy] [] (w.set 47 (aI 900 f)) r w' := by
  obtain ⟨hB, ⟨hs, hu, oku⟩, ht, hv, okv⟩ := h
  have b1 := oku.1
  have b2 := okv.1
  have l1 := okL_get oku.2 i
  have l2 := okL_get okv.2 j
  have g1 : (w.set 47 (aI 900 f))[41]? = some (mdF D) := gne (by decide) hB.1
  have g2 : (w.set 47 (aI 900 f))[42]? = some (aI 24 mf) := gne (by decide) hB.2.1
  have g3 : (w.set 47 (aI 900 f))[43]? = some (aI 720 lf) := gne (by decide) hB.2.2
  have g4 : (w.set 47 (aI 900 f))[47]? = some (aI 900 f) := gse hf
  have store : ∀ (x : Int32) (x6 x7 : Value), x = mlV f u v i j → EW mX7_longests none 145 [.ref 41, .int (nI s), .int (nI t), .int (nI i), .int (nI j), .int x, x6, x7] [] (w.set 47 (aI 900 f)) r w' := by
    intro x x6 x7 hx
    subst hx
    refine e_aload_n dX7_longests_145 rfl (pn 146 rfl ?_)
    refine e_get dX7_longests_146 fl_X7_34 g1 rfl (pn 149 rfl ?_)
    refine e_bi (30) dX7_longests_149 (by decide) (pn 151 rfl ?_)
    refine e_iload_n dX7_longests_151 rfl (pn 152 rfl ?_)
    refine e_imul dX7_longests_152 (pn 153 rfl ?_)
    refine e_iload dX7_longests_153 rfl (pn 155 rfl ?_)
    refine e_iadd dX7_longests_155 (pn 156 rfl ?_)
    refine e_iload dX7_longests_156 rfl (pn 158 rfl ?_)
    refine e_iast (30 * i + j) dX7_longests_158 g4 (c30 i j) (by omega) (by omega) (pn 159 rfl ?_)
    rw [List.set_set]
    refine s_inc [_, _, _, _, _, _, _, _] (-1) dX7_longests_159 (by decide) rfl (Nat.le_of_ble_eq_true rfl) rfl (pn 162 rfl ?_)
    refine e_goto 19 dX7_longests_162 (by decide) ?_
    exact e_dr [_, _, _, _, _, _, _, _] 5 rfl (e_dr [_, _, _, _, _, _, _, _] 6 rfl (e_dr [_, _, _, _, _, _, _, _] 7 rfl K))
  refine e_ic (0) dX7_longests_24 (by decide) (pn 25 rfl ?_)
  refine s_i [_, _, _, _, _, _, _, _] dX7_longests_25 (Nat.le_of_ble_eq_true rfl) rfl (pn 27 rfl ?_)
  refine e_iload_n dX7_longests_27 rfl (pn 28 rfl ?_)
  refine e_aload_n dX7_longests_28 rfl (pn 29 rfl ?_)
  refine e_get dX7_longests_29 fl_X7_13 g1 rfl (pn 32 rfl ?_)
  refine e_iload_n dX7_longests_32 rfl (pn 33 rfl ?_)
  refine e_iald (s) dX7_longests_33 g2 rfl hs (by omega) (pn 34 rfl ?_)
  rw [hu.1]
  refine e_icmp_ge 145 dX7_longests_34 (by decide) (fun c34 => ?_) (fun c34 => pn 37 rfl ?_)
  · have hc : ¬ i < u.length := fun q => nI_ge q (by omega) c34
    exact store _ _ _ (by rw [mlV, if_neg (fun q => hc q.1)])
  · have hc : i < u.length := Nat.lt_of_not_le (fun q => c34 (nI_le q (by omega)))
    refine e_iload dX7_longests_37 rfl (pn 39 rfl ?_)
    refine e_aload_n dX7_longests_39 rfl (pn 40 rfl ?_)
    refine e_get dX7_longests_40 fl_X7_13 g1 rfl (pn 43 rfl ?_)
    refine e_iload_n dX7_longests_43 rfl (pn 44 rfl ?_)
    refine e_iald (t) dX7_longests_44 g2 rfl ht (by omega) (pn 45 rfl ?_)
    rw [hv.1]
    refine e_icmp_ge 145 dX7_longests_45 (by decide) (fun c45 => ?_) (fun c45 => pn 48 rfl ?_)
    · have hc2 : ¬ j < v.length := fun q => nI_ge q (by omega) c45
      exact store _ _ _ (by rw [mlV, if_neg (fun q => hc2 q.2)])
    · have hc2 : j < v.length := Nat.lt_of_not_le (fun q => c45 (nI_le q (by omega)))
      refine e_aload_n dX7_longests_48 rfl (pn 49 rfl ?_)
      refine e_get dX7_longests_49 fl_X7_34 g1 rfl (pn 52 rfl ?_)
      refine e_bi (30) dX7_longests_52 (by decide) (pn 54 rfl ?_)
      refine e_iload_n dX7_longests_54 rfl (pn 55 rfl ?_)
      refine e_imul dX7_longests_55 (pn 56 rfl ?_)
      refine e_bi (30) dX7_longests_56 (by decide) (pn 58 rfl ?_)
      refine e_iadd dX7_longests_58 (pn 59 rfl ?_)
      refine e_iload dX7_longests_59 rfl (pn 61 rfl ?_)
      refine e_iadd dX7_longests_61 (pn 62 rfl ?_)
      refine e_iald (30 * i + 30 + j) dX7_longests_62 g4 (d30 i j) (by omega) (by omega) (pn 63 rfl ?_)
      refine s_i [_, _, _, _, _, _, _, _] dX7_longests_63 (Nat.le_of_ble_eq_true rfl) rfl (pn 65 rfl ?_)
      refine e_aload_n dX7_longests_65 rfl (pn 66 rfl ?_)
      refine e_get dX7_longests_66 fl_X7_34 g1 rfl (pn 69 rfl ?_)
      refine e_bi (30) dX7_longests_69 (by decide) (pn 71 rfl ?_)
      refine e_iload_n dX7_longests_71 rfl (pn 72 rfl ?_)
      refine e_imul dX7_longests_72 (pn 73 rfl ?_)
      refine e_iload dX7_longests_73 rfl (pn 75 rfl ?_)
      refine e_iadd dX7_longests_75 (pn 76 rfl ?_)
      refine e_ic (1) dX7_longests_76 (by decide) (pn 77 rfl ?_)
      refine e_iadd dX7_longests_77 (pn 78 rfl ?_)
      refine e_iald (30 * i + j + 1) dX7_longests_78 g4 (c301 i j) (by omega) (by omega) (pn 79 rfl ?_)
      refine s_i [_, _, _, _, _, _, _, _] dX7_longests_79 (Nat.le_of_ble_eq_true rfl) rfl (pn 81 rfl ?_)
      refine e_aload_n dX7_longests_81 rfl (pn 82 rfl ?_)
      refine e_get dX7_longests_82 fl_X7_17 g1 rfl (pn 85 rfl ?_)
      refine e_bi (30) dX7_longests_85 (by decide) (pn 87 rfl ?_)
      refine e_iload_n dX7_longests_87 rfl (pn 88 rfl ?_)
      refine e_imul dX7_longests_88 (pn 89 rfl ?_)
      refine e_iload_n dX7_longests_89 rfl (pn 90 rfl ?_)
      refine e_iadd dX7_longests_90 (pn 91 rfl ?_)
      refine e_iald (30 * s + i) dX7_longests_91 g3 (c30 s i) (by omega) (by omega) (pn 92 rfl ?_)
      refine e_aload_n dX7_longests_92 rfl (pn 93 rfl ?_)
      refine e_get dX7_longests_93 fl_X7_17 g1 rfl (pn 96 rfl ?_)
      refine e_bi (30) dX7_longests_96 (by decide) (pn 98 rfl ?_)
      refine e_iload_n dX7_longests_98 rfl (pn 99 rfl ?_)
      refine e_imul dX7_longests_99 (pn 100 rfl ?_)
      refine e_iload dX7_longests_100 rfl (pn 102 rfl ?_)
      refine e_iadd dX7_longests_102 (pn 103 rfl ?_)
      refine e_iald (30 * t + j) dX7_longests_103 g3 (c30 t j) (by omega) (by omega) (pn 104 rfl ?_)
      rw [hu.2.2 i hc, hv.2.2 j hc2]
      refine e_icmp_ne 129 dX7_longests_104 (by decide) (fun c104 => ?_) (fun c104 => pn 107 rfl ?_)
      · have hne : ¬ u.getD i 0 = v.getD j 0 := fun q => c104 (by rw [q])
        refine e_iload dX7_longests_129 rfl (pn 131 rfl ?_)
        refine e_iload dX7_longests_131 rfl (pn 133 rfl ?_)
        refine e_icmp_le 141 dX7_longests_133 (by decide) (fun c133 => ?_) (fun c133 => pn 136 rfl ?_)
        · refine e_iload dX7_longests_141 rfl (pn 143 rfl ?_)
          refine s_i [_, _, _, _, _, _, _, _] dX7_longests_143 (Nat.le_of_ble_eq_true rfl) rfl (pn 145 rfl ?_)
          exact store _ _ _ (by rw [mlV, if_pos ⟨hc, hc2⟩, if_neg hne, if_pos c133])
        · refine e_iload dX7_longests_136 rfl (pn 138 rfl ?_)
          refine e_goto 143 dX7_longests_138 (by decide) ?_
          refine s_i [_, _, _, _, _, _, _, _] dX7_longests_143 (Nat.le_of_ble_eq_true rfl) rfl (pn 145 rfl ?_)
          exact store _ _ _ (by rw [mlV, if_pos ⟨hc, hc2⟩, if_neg hne, if_neg c133])
      · have he : u.getD i 0 = v.getD j 0 := (nI_eq (by omega) (by omega)).mp c104
        refine e_aload_n dX7_longests_107 rfl (pn 108 rfl ?_)
        refine e_get dX7_longests_108 fl_X7_34 g1 rfl (pn 111 rfl ?_)
        refine e_bi (30) dX7_longests_111 (by decide) (pn 113 rfl ?_)
        refine e_iload_n dX7_longests_113 rfl (pn 114 rfl ?_)
        refine e_imul dX7_longests_114 (pn 115 rfl ?_)
        refine e_bi (30) dX7_longests_115 (by decide) (pn 117 rfl ?_)
        refine e_iadd dX7_longests_117 (pn 118 rfl ?_)
        refine e_iload dX7_longests_118 rfl (pn 120 rfl ?_)
        refine e_iadd dX7_longests_120 (pn 121 rfl ?_)
        refine e_ic (1) dX7_longests_121 (by decide) (pn 122 rfl ?_)
        refine e_iadd dX7_longests_122 (pn 123 rfl ?_)
        refine e_iald (30 * i + 30 + j + 1) dX7_longests_123 g4 (d301 i j) (by omega) (by omega) (pn 124 rfl ?_)
        refine e_ic (1) dX7_longests_124 (by decide) (pn 125 rfl ?_)
        refine e_iadd dX7_longests_125 (pn 126 rfl ?_)
        refine e_goto 143 dX7_longests_126 (by decide) ?_
        refine s_i [_, _, _, _, _, _, _, _] dX7_longests_143 (Nat.le_of_ble_eq_true rfl) rfl (pn 145 rfl ?_)
        exact store _ _ _ (by rw [mlV, if_pos ⟨hc, hc2⟩, if_pos he])
def meV (f : Nat → Int32) (u v : List Nat) (i j : Nat) : Int32 :=
  if i < u.length ∧ j < v.length then (let p := f (30 * i + 30 + j + 1) + (if u.getD i 0 = v.getD j 0 then 0 else 1); let x := (if f (30 * i + 30 + j) + 1 ≤ p then f (30 * i + 30 + j) + 1 else p); if x ≤ f (30 * i + j + 1) + 1 then x else f (30 * i + j + 1) + 1) else nI u.length - nI i + nI v.length - nI j
theorem me_cell {w : Wd} {D : Md} {mf lf : Nat → Int32} {s t : Nat} {u v : List Nat} (h : mT w D mf lf s t u v) {f0 : Nat → Int32} (hf : w[47]? = some (aI 900 f0)) {r : Option Value} {w' : Wd} {i j : Nat} (hi : i ≤ u.length) (hj : j ≤ v.length) (f : Nat → Int32) (K : EW mX7_editsBetween none 19 [.ref 41, .int (nI s), .int (nI t), .int (nI i), .int (nI j + (-1)), dmy, dmy, dmy, dmy] [] (w.set 47 (aI 900 (va_up f (30 * i + j) (meV f u v i j)))) r w') : EW mX7_editsBetween none 24 [.ref 41, .int (nI s), .int (nI t), .int (nI i), .int (nI j), dmy, dmy, dmy, dmy] [] (w.set 47 (aI 900 f)) r w' := by
  obtain ⟨hB, ⟨hs, hu, oku⟩, ht, hv, okv⟩ := h
  have b1 := oku.1
  have b2 := okv.1
  have l1 := okL_get oku.2 i
  have l2 := okL_get okv.2 j
  have g1 : (w.set 47 (aI 900 f))[41]? = some (mdF D) := gne (by decide) hB.1
  have g2 : (w.set 47 (aI 900 f))[42]? = some (aI 24 mf) := gne (by decide) hB.2.1
  have g3 : (w.set 47 (aI 900 f))[43]? = some (aI 720 lf) := gne (by decide) hB.2.2
  have g4 : (w.set 47 (aI 900 f))[47]? = some (aI 900 f) := gse hf
  have store : ∀ (x : Int32) (x6 x7 x8 : Value), x = meV f u v i j → EW mX7_editsBetween none 185 [.ref 41, .int (nI s), .int (nI t), .int (nI i), .int (nI j), .int x, x6, x7, x8] [] (w.set 47 (aI 900 f)) r w' := by
    intro x x6 x7 x8 hx
    subst hx
    refine e_aload_n dX7_editsBetween_185 rfl (pn 186 rfl ?_)
    refine e_get dX7_editsBetween_186 fl_X7_34 g1 rfl (pn 189 rfl ?_)
    refine e_bi (30) dX7_editsBetween_189 (by decide) (pn 191 rfl ?_)
    refine e_iload_n dX7_editsBetween_191 rfl (pn 192 rfl ?_)
    refine e_imul dX7_editsBetween_192 (pn 193 rfl ?_)
    refine e_iload dX7_editsBetween_193 rfl (pn 195 rfl ?_)
    refine e_iadd dX7_editsBetween_195 (pn 196 rfl ?_)
    refine e_iload dX7_editsBetween_196 rfl (pn 198 rfl ?_)
    refine e_iast (30 * i + j) dX7_editsBetween_198 g4 (c30 i j) (by omega) (by omega) (pn 199 rfl ?_)
    rw [List.set_set]
    refine s_inc [_, _, _, _, _, _, _, _, _] (-1) dX7_editsBetween_199 (by decide) rfl (Nat.le_of_ble_eq_true rfl) rfl (pn 202 rfl ?_)
    refine e_goto 19 dX7_editsBetween_202 (by decide) ?_
    exact e_dr [_, _, _, _, _, _, _, _, _] 5 rfl (e_dr [_, _, _, _, _, _, _, _, _] 6 rfl (e_dr [_, _, _, _, _, _, _, _, _] 7 rfl (e_dr [_, _, _, _, _, _, _, _, _] 8 rfl K)))
  refine e_aload_n dX7_editsBetween_24 rfl (pn 25 rfl ?_)
  refine e_get dX7_editsBetween_25 fl_X7_13 g1 rfl (pn 28 rfl ?_)
  refine e_iload_n dX7_editsBetween_28 rfl (pn 29 rfl ?_)
  refine e_iald (s) dX7_editsBetween_29 g2 rfl hs (by omega) (pn 30 rfl ?_)
  refine e_iload_n dX7_editsBetween_30 rfl (pn 31 rfl ?_)
  rw [hu.1]
  refine e_isub dX7_editsBetween_31 (pn 32 rfl ?_)
  refine e_aload_n dX7_editsBetween_32 rfl (pn 33 rfl ?_)
  refine e_get dX7_editsBetween_33 fl_X7_13 g1 rfl (pn 36 rfl ?_)
  refine e_iload_n dX7_editsBetween_36 rfl (pn 37 rfl ?_)
  refine e_iald (t) dX7_editsBetween_37 g2 rfl ht (by omega) (pn 38 rfl ?_)
  rw [hv.1]
  refine e_iadd dX7_editsBetween_38 (pn 39 rfl ?_)
  refine e_iload dX7_editsBetween_39 rfl (pn 41 rfl ?_)
  refine e_isub dX7_editsBetween_41 (pn 42 rfl ?_)
  refine s_i [_, _, _, _, _, _, _, _, _] dX7_editsBetween_42 (Nat.le_of_ble_eq_true rfl) rfl (pn 44 rfl ?_)
  refine e_iload_n dX7_editsBetween_44 rfl (pn 45 rfl ?_)
  refine e_aload_n dX7_editsBetween_45 rfl (pn 46 rfl ?_)
  refine e_get dX7_editsBetween_46 fl_X7_13 g1 rfl (pn 49 rfl ?_)
  refine e_iload_n dX7_editsBetween_49 rfl (pn 50 rfl ?_)
  refine e_iald (s) dX7_editsBetween_50 g2 rfl hs (by omega) (pn 51 rfl ?_)
  rw [hu.1]
  refine e_icmp_ge 185 dX7_editsBetween_51 (by decide) (fun c51 => ?_) (fun c51 => pn 54 rfl ?_)
  · have hc : ¬ i < u.length := fun q => nI_ge q (by omega) c51
    exact store _ _ _ _ (by rw [meV, if_neg (fun q => hc q.1)])
  · have hc : i < u.length := Nat.lt_of_not_le (fun q => c51 (nI_le q (by omega)))
    refine e_iload dX7_editsBetween_54 rfl (pn 56 rfl ?_)
    refine e_aload_n dX7_editsBetween_56 rfl (pn 57 rfl ?_)
    refine e_get dX7_editsBetween_57 fl_X7_13 g1 rfl (pn 60 rfl ?_)
    refine e_iload_n dX7_editsBetween_60 rfl (pn 61 rfl ?_)
    refine e_iald (t) dX7_editsBetween_61 g2 rfl ht (by omega) (pn 62 rfl ?_)
    rw [hv.1]
    refine e_icmp_ge 185 dX7_editsBetween_62 (by decide) (fun c62 => ?_) (fun c62 => pn 65 rfl ?_)
    · have hc2 : ¬ j < v.length := fun q => nI_ge q (by omega) c62
      exact store _ _ _ _ (by rw [meV, if_neg (fun q => hc2 q.2)])
    · have hc2 : j < v.length := Nat.lt_of_not_le (fun q => c62 (nI_le q (by omega)))
      have behind : ∀ e : Int32, e = (if u.getD i 0 = v.getD j 0 then 0 else 1) → ∀ x5 : Int32, EW mX7_editsBetween none 113 [.ref 41, .int (nI s), .int (nI t), .int (nI i), .int (nI j), .int x5, dmy, dmy, dmy] [.int e, .int (f (30 * i + 30 + j + 1))] (w.set 47 (aI 900 f)) r w' := by
        intro e he x5
        have hV : meV f u v i j = (let p := f (30 * i + 30 + j + 1) + e; let x := (if f (30 * i + 30 + j) + 1 ≤ p then f (30 * i + 30 + j) + 1 else p); if x ≤ f (30 * i + j + 1) + 1 then x else f (30 * i + j + 1) + 1) := by rw [meV, if_pos ⟨hc, hc2⟩, he]
        refine e_iadd dX7_editsBetween_113 (pn 114 rfl ?_)
        refine s_i [_, _, _, _, _, _, _, _, _] dX7_editsBetween_114 (Nat.le_of_ble_eq_true rfl) rfl (pn 116 rfl ?_)
        refine e_aload_n dX7_editsBetween_116 rfl (pn 117 rfl ?_)
        refine e_get dX7_editsBetween_117 fl_X7_34 g1 rfl (pn 120 rfl ?_)
        refine e_bi (30) dX7_editsBetween_120 (by decide) (pn 122 rfl ?_)
        refine e_iload_n dX7_editsBetween_122 rfl (pn 123 rfl ?_)
        refine e_imul dX7_editsBetween_123 (pn 124 rfl ?_)
        refine e_bi (30) dX7_editsBetween_124 (by decide) (pn 126 rfl ?_)
        refine e_iadd dX7_editsBetween_126 (pn 127 rfl ?_)
        refine e_iload dX7_editsBetween_127 rfl (pn 129 rfl ?_)
        refine e_iadd dX7_editsBetween_129 (pn 130 rfl ?_)
        refine e_iald (30 * i + 30 + j) dX7_editsBetween_130 g4 (d30 i j) (by omega) (by omega) (pn 131 rfl ?_)
        refine e_ic (1) dX7_editsBetween_131 (by decide) (pn 132 rfl ?_)
        refine e_iadd dX7_editsBetween_132 (pn 133 rfl ?_)
        refine s_i [_, _, _, _, _, _, _, _, _] dX7_editsBetween_133 (Nat.le_of_ble_eq_true rfl) rfl (pn 135 rfl ?_)
        refine e_aload_n dX7_editsBetween_135 rfl (pn 136 rfl ?_)
        refine e_get dX7_editsBetween_136 fl_X7_34 g1 rfl (pn 139 rfl ?_)
        refine e_bi (30) dX7_editsBetween_139 (by decide) (pn 141 rfl ?_)
        refine e_iload_n dX7_editsBetween_141 rfl (pn 142 rfl ?_)
        refine e_imul dX7_editsBetween_142 (pn 143 rfl ?_)
        refine e_iload dX7_editsBetween_143 rfl (pn 145 rfl ?_)
        refine e_iadd dX7_editsBetween_145 (pn 146 rfl ?_)
        refine e_ic (1) dX7_editsBetween_146 (by decide) (pn 147 rfl ?_)
        refine e_iadd dX7_editsBetween_147 (pn 148 rfl ?_)
        refine e_iald (30 * i + j + 1) dX7_editsBetween_148 g4 (c301 i j) (by omega) (by omega) (pn 149 rfl ?_)
        refine e_ic (1) dX7_editsBetween_149 (by decide) (pn 150 rfl ?_)
        refine e_iadd dX7_editsBetween_150 (pn 151 rfl ?_)
        refine s_i [_, _, _, _, _, _, _, _, _] dX7_editsBetween_151 (Nat.le_of_ble_eq_true rfl) rfl (pn 153 rfl ?_)
        refine e_iload dX7_editsBetween_153 rfl (pn 155 rfl ?_)
        refine e_iload dX7_editsBetween_155 rfl (pn 157 rfl ?_)
        have last : ∀ x : Int32, x = (if f (30 * i + 30 + j) + 1 ≤ f (30 * i + 30 + j + 1) + e then f (30 * i + 30 + j) + 1 else f (30 * i + 30 + j + 1) + e) → EW mX7_editsBetween none 167 [.ref 41, .int (nI s), .int (nI t), .int (nI i), .int (nI j), .int x5, .int (f (30 * i + 30 + j + 1) + e), .int (f (30 * i + 30 + j) + 1), .int (f (30 * i + j + 1) + 1)] [.int x] (w.set 47 (aI 900 f)) r w' := by
          intro x hx
          refine s_i [_, _, _, _, _, _, _, _, _] dX7_editsBetween_167 (Nat.le_of_ble_eq_true rfl) rfl (pn 169 rfl ?_)
          refine e_iload dX7_editsBetween_169 rfl (pn 171 rfl ?_)
          refine e_iload dX7_editsBetween_171 rfl (pn 173 rfl ?_)
          refine e_icmp_ge 181 dX7_editsBetween_173 (by decide) (fun c173 => ?_) (fun c173 => pn 176 rfl ?_)
          · refine e_iload dX7_editsBetween_181 rfl (pn 183 rfl ?_)
            refine s_i [_, _, _, _, _, _, _, _, _] dX7_editsBetween_183 (Nat.le_of_ble_eq_true rfl) rfl (pn 185 rfl ?_)
            exact store _ _ _ _ (by rw [hV]; simp only; rw [← hx, if_pos c173])
          · refine e_iload dX7_editsBetween_176 rfl (pn 178 rfl ?_)
            refine e_goto 183 dX7_editsBetween_178 (by decide) ?_
            refine s_i [_, _, _, _, _, _, _, _, _] dX7_editsBetween_183 (Nat.le_of_ble_eq_true rfl) rfl (pn 185 rfl ?_)
            exact store _ _ _ _ (by rw [hV]; simp only; rw [← hx, if_neg c173])
        refine e_icmp_ge 165 dX7_editsBetween_157 (by decide) (fun c157 => ?_) (fun c157 => pn 160 rfl ?_)
        · refine e_iload dX7_editsBetween_165 rfl (pn 167 rfl ?_)
          exact last _ (by rw [if_pos c157])
        · refine e_iload dX7_editsBetween_160 rfl (pn 162 rfl ?_)
          refine e_goto 167 dX7_editsBetween_162 (by decide) ?_
          exact last _ (by rw [if_neg c157])
      refine e_aload_n dX7_editsBetween_65 rfl (pn 66 rfl ?_)
      refine e_get dX7_editsBetween_66 fl_X7_34 g1 rfl (pn 69 rfl ?_)
      refine e_bi (30) dX7_editsBetween_69 (by decide) (pn 71 rfl ?_)
      refine e_iload_n dX7_editsBetween_71 rfl (pn 72 rfl ?_)
      refine e_imul dX7_editsBetween_72 (pn 73 rfl ?_)
      refine e_bi (30) dX7_editsBetween_73 (by decide) (pn 75 rfl ?_)
      refine e_iadd dX7_editsBetween_75 (pn 76 rfl ?_)
      refine e_iload dX7_editsBetween_76 rfl (pn 78 rfl ?_)
      refine e_iadd dX7_editsBetween_78 (pn 79 rfl ?_)
      refine e_ic (1) dX7_editsBetween_79 (by decide) (pn 80 rfl ?_)
      refine e_iadd dX7_editsBetween_80 (pn 81 rfl ?_)
      refine e_iald (30 * i + 30 + j + 1) dX7_editsBetween_81 g4 (d301 i j) (by omega) (by omega) (pn 82 rfl ?_)
      refine e_aload_n dX7_editsBetween_82 rfl (pn 83 rfl ?_)
      refine e_get dX7_editsBetween_83 fl_X7_17 g1 rfl (pn 86 rfl ?_)
      refine e_bi (30) dX7_editsBetween_86 (by decide) (pn 88 rfl ?_)
      refine e_iload_n dX7_editsBetween_88 rfl (pn 89 rfl ?_)
      refine e_imul dX7_editsBetween_89 (pn 90 rfl ?_)
      refine e_iload_n dX7_editsBetween_90 rfl (pn 91 rfl ?_)
      refine e_iadd dX7_editsBetween_91 (pn 92 rfl ?_)
      refine e_iald (30 * s + i) dX7_editsBetween_92 g3 (c30 s i) (by omega) (by omega) (pn 93 rfl ?_)
      refine e_aload_n dX7_editsBetween_93 rfl (pn 94 rfl ?_)
      refine e_get dX7_editsBetween_94 fl_X7_17 g1 rfl (pn 97 rfl ?_)
      refine e_bi (30) dX7_editsBetween_97 (by decide) (pn 99 rfl ?_)
      refine e_iload_n dX7_editsBetween_99 rfl (pn 100 rfl ?_)
      refine e_imul dX7_editsBetween_100 (pn 101 rfl ?_)
      refine e_iload dX7_editsBetween_101 rfl (pn 103 rfl ?_)
      refine e_iadd dX7_editsBetween_103 (pn 104 rfl ?_)
      refine e_iald (30 * t + j) dX7_editsBetween_104 g3 (c30 t j) (by omega) (by omega) (pn 105 rfl ?_)
      rw [hu.2.2 i hc, hv.2.2 j hc2]
      refine e_icmp_ne 112 dX7_editsBetween_105 (by decide) (fun c105 => ?_) (fun c105 => pn 108 rfl ?_)
      · have hne : ¬ u.getD i 0 = v.getD j 0 := fun q => c105 (by rw [q])
        refine e_ic (1) dX7_editsBetween_112 (by decide) (pn 113 rfl ?_)
        exact behind 1 (by rw [if_neg hne]) _
      · have he : u.getD i 0 = v.getD j 0 := (nI_eq (by omega) (by omega)).mp c105
        refine e_ic (0) dX7_editsBetween_108 (by decide) (pn 109 rfl ?_)
        refine e_goto 113 dX7_editsBetween_109 (by decide) ?_
        exact behind 0 (by rw [if_pos he]) _
def lyV (g : Nat → Int64) (u v : List Nat) (i j : Nat) : Int64 :=
  if i < u.length ∧ j < v.length then g (30 * i + j + 1) + (if u.getD i 0 = v.getD j 0 then g (30 * i + 30 + j + 1) else 0) else if i = u.length then 1 else 0
theorem ly_cell {w : Wd} {D : Md} {mf lf : Nat → Int32} {s t : Nat} {u v : List Nat} (h : mT w D mf lf s t u v) {f0 : Nat → Int64} (hf : w[46]? = some (aJ 900 f0)) {r : Option Value} {w' : Wd} {i j : Nat} (hi : i ≤ u.length) (hj : j ≤ v.length) (f : Nat → Int64) (K : EW mX7_lies none 19 [.ref 41, .int (nI s), .int (nI t), .int (nI i), .int (nI j + (-1)), dmy, dmy] [] (w.set 46 (aJ 900 (va_up f (30 * i + j) (lyV f u v i j)))) r w') : EW mX7_lies none 24 [.ref 41, .int (nI s), .int (nI t), .int (nI i), .int (nI j), dmy, dmy] [] (w.set 46 (aJ 900 f)) r w' := by
  obtain ⟨hB, ⟨hs, hu, oku⟩, ht, hv, okv⟩ := h
  have b1 := oku.1
  have b2 := okv.1
  have l1 := okL_get oku.2 i
  have l2 := okL_get okv.2 j
  have g1 : (w.set 46 (aJ 900 f))[41]? = some (mdF D) := gne (by decide) hB.1
  have g2 : (w.set 46 (aJ 900 f))[42]? = some (aI 24 mf) := gne (by decide) hB.2.1
  have g3 : (w.set 46 (aJ 900 f))[43]? = some (aI 720 lf) := gne (by decide) hB.2.2
  have g4 : (w.set 46 (aJ 900 f))[46]? = some (aJ 900 f) := gse hf
  have store : ∀ x : Int64, x = lyV f u v i j → EW mX7_lies none 126 [.ref 41, .int (nI s), .int (nI t), .int (nI i), .int (nI j), .long x, dmy] [] (w.set 46 (aJ 900 f)) r w' := by
    intro x hx
    subst hx
    refine e_aload_n dX7_lies_126 rfl (pn 127 rfl ?_)
    refine e_get dX7_lies_127 fl_X7_30 g1 rfl (pn 130 rfl ?_)
    refine e_bi (30) dX7_lies_130 (by decide) (pn 132 rfl ?_)
    refine e_iload_n dX7_lies_132 rfl (pn 133 rfl ?_)
    refine e_imul dX7_lies_133 (pn 134 rfl ?_)
    refine e_iload dX7_lies_134 rfl (pn 136 rfl ?_)
    refine e_iadd dX7_lies_136 (pn 137 rfl ?_)
    refine e_lload dX7_lies_137 rfl (pn 139 rfl ?_)
    refine e_last (30 * i + j) dX7_lies_139 g4 (c30 i j) (by omega) (by omega) (pn 140 rfl ?_)
    rw [List.set_set]
    refine s_inc [_, _, _, _, _, _, _] (-1) dX7_lies_140 (by decide) rfl (Nat.le_of_ble_eq_true rfl) rfl (pn 143 rfl ?_)
    refine e_goto 19 dX7_lies_143 (by decide) ?_
    exact e_dr [_, _, _, _, _, _, _] 5 rfl K
  have behind : ∀ x : Int64, x = (if i = u.length then 1 else 0) → EW mX7_lies none 41 [.ref 41, .int (nI s), .int (nI t), .int (nI i), .int (nI j), .long x, dmy] [] (w.set 46 (aJ 900 f)) r w' := by
    intro x hx
    refine e_iload_n dX7_lies_41 rfl (pn 42 rfl ?_)
    refine e_aload_n dX7_lies_42 rfl (pn 43 rfl ?_)
    refine e_get dX7_lies_43 fl_X7_13 g1 rfl (pn 46 rfl ?_)
    refine e_iload_n dX7_lies_46 rfl (pn 47 rfl ?_)
    refine e_iald (s) dX7_lies_47 g2 rfl hs (by omega) (pn 48 rfl ?_)
    rw [hu.1]
    refine e_icmp_ge 126 dX7_lies_48 (by decide) (fun c48 => ?_) (fun c48 => pn 51 rfl ?_)
    · have hc : ¬ i < u.length := fun q => nI_ge q (by omega) c48
      exact store _ (by rw [lyV, if_neg (fun q => hc q.1)]; exact hx)
    · have hc : i < u.length := Nat.lt_of_not_le (fun q => c48 (nI_le q (by omega)))
      refine e_iload dX7_lies_51 rfl (pn 53 rfl ?_)
      refine e_aload_n dX7_lies_53 rfl (pn 54 rfl ?_)
      refine e_get dX7_lies_54 fl_X7_13 g1 rfl (pn 57 rfl ?_)
      refine e_iload_n dX7_lies_57 rfl (pn 58 rfl ?_)
      refine e_iald (t) dX7_lies_58 g2 rfl ht (by omega) (pn 59 rfl ?_)
      rw [hv.1]
      refine e_icmp_ge 126 dX7_lies_59 (by decide) (fun c59 => ?_) (fun c59 => pn 62 rfl ?_)
      · have hc2 : ¬ j < v.length := fun q => nI_ge q (by omega) c59
        exact store _ (by rw [lyV, if_neg (fun q => hc2 q.2)]; exact hx)
      · have hc2 : j < v.length := Nat.lt_of_not_le (fun q => c59 (nI_le q (by omega)))
        refine e_aload_n dX7_lies_62 rfl (pn 63 rfl ?_)
        refine e_get dX7_lies_63 fl_X7_30 g1 rfl (pn 66 rfl ?_)
        refine e_bi (30) dX7_lies_66 (by decide) (pn 68 rfl ?_)
        refine e_iload_n dX7_lies_68 rfl (pn 69 rfl ?_)
        refine e_imul dX7_lies_69 (pn 70 rfl ?_)
        refine e_iload dX7_lies_70 rfl (pn 72 rfl ?_)
        refine e_iadd dX7_lies_72 (pn 73 rfl ?_)
        refine e_ic (1) dX7_lies_73 (by decide) (pn 74 rfl ?_)
        refine e_iadd dX7_lies_74 (pn 75 rfl ?_)
        refine e_lald (30 * i + j + 1) dX7_lies_75 g4 (c301 i j) (by omega) (by omega) (pn 76 rfl ?_)
        refine e_aload_n dX7_lies_76 rfl (pn 77 rfl ?_)
        refine e_get dX7_lies_77 fl_X7_17 g1 rfl (pn 80 rfl ?_)
        refine e_bi (30) dX7_lies_80 (by decide) (pn 82 rfl ?_)
        refine e_iload_n dX7_lies_82 rfl (pn 83 rfl ?_)
        refine e_imul dX7_lies_83 (pn 84 rfl ?_)
        refine e_iload_n dX7_lies_84 rfl (pn 85 rfl ?_)
        refine e_iadd dX7_lies_85 (pn 86 rfl ?_)
        refine e_iald (30 * s + i) dX7_lies_86 g3 (c30 s i) (by omega) (by omega) (pn 87 rfl ?_)
        refine e_aload_n dX7_lies_87 rfl (pn 88 rfl ?_)
        refine e_get dX7_lies_88 fl_X7_17 g1 rfl (pn 91 rfl ?_)
        refine e_bi (30) dX7_lies_91 (by decide) (pn 93 rfl ?_)
        refine e_iload_n dX7_lies_93 rfl (pn 94 rfl ?_)
        refine e_imul dX7_lies_94 (pn 95 rfl ?_)
        refine e_iload dX7_lies_95 rfl (pn 97 rfl ?_)
        refine e_iadd dX7_lies_97 (pn 98 rfl ?_)
        refine e_iald (30 * t + j) dX7_lies_98 g3 (c30 t j) (by omega) (by omega) (pn 99 rfl ?_)
        rw [hu.2.2 i hc, hv.2.2 j hc2]
        refine e_icmp_ne 122 dX7_lies_99 (by decide) (fun c99 => ?_) (fun c99 => pn 102 rfl ?_)
        · have hne : ¬ u.getD i 0 = v.getD j 0 := fun q => c99 (by rw [q])
          refine e_lc (0) dX7_lies_122 (by decide) (pn 123 rfl ?_)
          refine e_ladd dX7_lies_123 (pn 124 rfl ?_)
          refine s_l [_, _, _, _, _, _, _] dX7_lies_124 (Nat.le_of_ble_eq_true rfl) rfl (pn 126 rfl ?_)
          exact store _ (by rw [lyV, if_pos ⟨hc, hc2⟩, if_neg hne])
        · have he : u.getD i 0 = v.getD j 0 := (nI_eq (by omega) (by omega)).mp c99
          refine e_aload_n dX7_lies_102 rfl (pn 103 rfl ?_)
          refine e_get dX7_lies_103 fl_X7_30 g1 rfl (pn 106 rfl ?_)
          refine e_bi (30) dX7_lies_106 (by decide) (pn 108 rfl ?_)
          refine e_iload_n dX7_lies_108 rfl (pn 109 rfl ?_)
          refine e_imul dX7_lies_109 (pn 110 rfl ?_)
          refine e_bi (30) dX7_lies_110 (by decide) (pn 112 rfl ?_)
          refine e_iadd dX7_lies_112 (pn 113 rfl ?_)
          refine e_iload dX7_lies_113 rfl (pn 115 rfl ?_)
          refine e_iadd dX7_lies_115 (pn 116 rfl ?_)
          refine e_ic (1) dX7_lies_116 (by decide) (pn 117 rfl ?_)
          refine e_iadd dX7_lies_117 (pn 118 rfl ?_)
          refine e_lald (30 * i + 30 + j + 1) dX7_lies_118 g4 (d301 i j) (by omega) (by omega) (pn 119 rfl ?_)
          refine e_goto 123 dX7_lies_119 (by decide) ?_
          refine e_ladd dX7_lies_123 (pn 124 rfl ?_)
          refine s_l [_, _, _, _, _, _, _] dX7_lies_124 (Nat.le_of_ble_eq_true rfl) rfl (pn 126 rfl ?_)
          exact store _ (by rw [lyV, if_pos ⟨hc, hc2⟩, if_pos he])
  refine e_iload_n dX7_lies_24 rfl (pn 25 rfl ?_)
  refine e_aload_n dX7_lies_25 rfl (pn 26 rfl ?_)
  refine e_get dX7_lies_26 fl_X7_13 g1 rfl (pn 29 rfl ?_)
  refine e_iload_n dX7_lies_29 rfl (pn 30 rfl ?_)
  refine e_iald (s) dX7_lies_30 g2 rfl hs (by omega) (pn 31 rfl ?_)
  rw [hu.1]
  refine e_icmp_ne 38 dX7_lies_31 (by decide) (fun c31 => ?_) (fun c31 => pn 34 rfl ?_)
  · have hne : ¬ i = u.length := fun q => c31 (by rw [q])
    refine e_lc (0) dX7_lies_38 (by decide) (pn 39 rfl ?_)
    refine s_l [_, _, _, _, _, _, _] dX7_lies_39 (Nat.le_of_ble_eq_true rfl) rfl (pn 41 rfl ?_)
    exact behind 0 (by rw [if_neg hne])
  · have he : i = u.length := (nI_eq (by omega) (by omega)).mp c31
    refine e_lc (1) dX7_lies_34 (by decide) (pn 35 rfl ?_)
    refine e_goto 39 dX7_lies_35 (by decide) ?_
    refine s_l [_, _, _, _, _, _, _] dX7_lies_39 (Nat.le_of_ble_eq_true rfl) rfl (pn 41 rfl ?_)
    exact behind 1 (by rw [if_pos he])
def mlI (u v : List Nat) (i : Nat) : Nat → (Nat → Int32) → Nat → Int32
  | 0, f => f
  | k + 1, f => mlI u v i k (va_up f (30 * i + k) (mlV f u v i k))
def mlO (u v : List Nat) : Nat → (Nat → Int32) → Nat → Int32
  | 0, f => f
  | k + 1, f => mlO u v k (mlI u v k (v.length + 1) f)
theorem q_longests {w : Wd} {D : Md} {mf lf : Nat → Int32} {s t : Nat} {u v : List Nat} (h : mT w D mf lf s t u v) {f0 : Nat → Int32} (hf : w[47]? = some (aI 900 f0)) : CW mX7_longests [.ref 41, .int (nI s), .int (nI t)] w none (w.set 47 (aI 900 (mlO u v (u.length + 1) f0))) := by
  obtain ⟨hB, ⟨hs, hu, oku⟩, ht, hv, okv⟩ := id h
  have b1 := oku.1
  have b2 := okv.1
  have inner : ∀ {r : Option Value} {w' : Wd} (i : Nat), i ≤ u.length → ∀ (k : Nat) (f : Nat → Int32), k ≤ v.length + 1 → EW mX7_longests none 165 [.ref 41, .int (nI s), .int (nI t), .int (nI i), dmy, dmy, dmy, dmy] [] (w.set 47 (aI 900 (mlI u v i k f))) r w' → EW mX7_longests none 19 [.ref 41, .int (nI s), .int (nI t), .int (nI i), .int (nI k + (-1)), dmy, dmy, dmy] [] (w.set 47 (aI 900 f)) r w' := by
    intro r w' i hi k
    induction k with
    | zero =>
      intro f hk K
      refine e_iload dX7_longests_19 rfl (pn 21 rfl ?_)
      refine e_if_lt 165 dX7_longests_21 (by decide) (fun c21 => ?_) (fun c21 => pn 24 rfl ?_)
      · exact e_dr [_, _, _, _, _, _, _, _] 4 rfl K
      · exact absurd ((m1_lt 0 (by decide)).mpr rfl) c21
    | succ k ih =>
      intro f hk K
      simp only [pk_m1]
      refine e_iload dX7_longests_19 rfl (pn 21 rfl ?_)
      refine e_if_lt 165 dX7_longests_21 (by decide) (fun c21 => ?_) (fun c21 => pn 24 rfl ?_)
      · exact absurd c21 (nI_pos (by omega))
      · exact ml_cell h hf hi (by omega) f (ih _ (by omega) K)
  have outer : ∀ {r : Option Value} {w' : Wd} (k : Nat) (f : Nat → Int32), k ≤ u.length + 1 → EW mX7_longests none 171 [.ref 41, .int (nI s), .int (nI t), dmy, dmy, dmy, dmy, dmy] [] (w.set 47 (aI 900 (mlO u v k f))) r w' → EW mX7_longests none 7 [.ref 41, .int (nI s), .int (nI t), .int (nI k + (-1)), dmy, dmy, dmy, dmy] [] (w.set 47 (aI 900 f)) r w' := by
    intro r w' k
    induction k with
    | zero =>
      intro f hk K
      refine e_iload_n dX7_longests_7 rfl (pn 8 rfl ?_)
      refine e_if_lt 171 dX7_longests_8 (by decide) (fun c8 => ?_) (fun c8 => pn 11 rfl ?_)
      · exact e_dr [_, _, _, _, _, _, _, _] 3 rfl K
      · exact absurd ((m1_lt 0 (by decide)).mpr rfl) c8
    | succ k ih =>
      intro f hk K
      have g1 : (w.set 47 (aI 900 f))[41]? = some (mdF D) := gne (by decide) hB.1
      have g2 : (w.set 47 (aI 900 f))[42]? = some (aI 24 mf) := gne (by decide) hB.2.1
      simp only [pk_m1]
      refine e_iload_n dX7_longests_7 rfl (pn 8 rfl ?_)
      refine e_if_lt 171 dX7_longests_8 (by decide) (fun c8 => ?_) (fun c8 => pn 11 rfl ?_)
      · exact absurd c8 (nI_pos (by omega))
      · refine e_aload_n dX7_longests_11 rfl (pn 12 rfl ?_)
        refine e_get dX7_longests_12 fl_X7_13 g1 rfl (pn 15 rfl ?_)
        refine e_iload_n dX7_longests_15 rfl (pn 16 rfl ?_)
        refine e_iald (t) dX7_longests_16 g2 rfl ht (by omega) (pn 17 rfl ?_)
        rw [hv.1, ← pk_m1 v.length]
        refine s_i [_, _, _, _, _, _, _, _] dX7_longests_17 (Nat.le_of_ble_eq_true rfl) rfl (pn 19 rfl ?_)
        refine inner k (by omega) (v.length + 1) f (Nat.le_refl _) ?_
        refine s_inc [_, _, _, _, _, _, _, _] (-1) dX7_longests_165 (by decide) rfl (Nat.le_of_ble_eq_true rfl) rfl (pn 168 rfl ?_)
        refine e_goto 7 dX7_longests_168 (by decide) ?_
        exact ih _ (by omega) K
  refine cw_of (M := mX7_longests) fx_X7_longests (lv := [.ref 41, .int (nI s), .int (nI t), dmy, dmy, dmy, dmy, dmy]) rfl (Nat.le_of_ble_eq_true rfl) ?_
  refine e_aload_n dX7_longests_0 rfl (pn 1 rfl ?_)
  refine e_get dX7_longests_1 fl_X7_13 hB.1 rfl (pn 4 rfl ?_)
  refine e_iload_n dX7_longests_4 rfl (pn 5 rfl ?_)
  refine e_iald (s) dX7_longests_5 hB.2.1 rfl hs (by omega) (pn 6 rfl ?_)
  refine pw (set_id hf).symm ?_
  rw [hu.1, ← pk_m1 u.length]
  refine s_in [_, _, _, _, _, _, _, _] dX7_longests_6 (Nat.le_of_ble_eq_true rfl) rfl (pn 7 rfl ?_)
  refine outer (u.length + 1) f0 (Nat.le_refl _) ?_
  exact e_vret dX7_longests_171 rfl rfl rfl
def meI (u v : List Nat) (i : Nat) : Nat → (Nat → Int32) → Nat → Int32
  | 0, f => f
  | k + 1, f => meI u v i k (va_up f (30 * i + k) (meV f u v i k))
def meO (u v : List Nat) : Nat → (Nat → Int32) → Nat → Int32
  | 0, f => f
  | k + 1, f => meO u v k (meI u v k (v.length + 1) f)
theorem q_editsB {w : Wd} {D : Md} {mf lf : Nat → Int32} {s t : Nat} {u v : List Nat} (h : mT w D mf lf s t u v) {f0 : Nat → Int32} (hf : w[47]? = some (aI 900 f0)) : CW mX7_editsBetween [.ref 41, .int (nI s), .int (nI t)] w (some (.int (meO u v (u.length + 1) f0 0))) (w.set 47 (aI 900 (meO u v (u.length + 1) f0))) := by
  obtain ⟨hB, ⟨hs, hu, oku⟩, ht, hv, okv⟩ := id h
  have b1 := oku.1
  have b2 := okv.1
  have inner : ∀ {r : Option Value} {w' : Wd} (i : Nat), i ≤ u.length → ∀ (k : Nat) (f : Nat → Int32), k ≤ v.length + 1 → EW mX7_editsBetween none 205 [.ref 41, .int (nI s), .int (nI t), .int (nI i), dmy, dmy, dmy, dmy, dmy] [] (w.set 47 (aI 900 (meI u v i k f))) r w' → EW mX7_editsBetween none 19 [.ref 41, .int (nI s), .int (nI t), .int (nI i), .int (nI k + (-1)), dmy, dmy, dmy, dmy] [] (w.set 47 (aI 900 f)) r w' := by
    intro r w' i hi k
    induction k with
    | zero =>
      intro f hk K
      refine e_iload dX7_editsBetween_19 rfl (pn 21 rfl ?_)
      refine e_if_lt 205 dX7_editsBetween_21 (by decide) (fun c21 => ?_) (fun c21 => pn 24 rfl ?_)
      · exact e_dr [_, _, _, _, _, _, _, _, _] 4 rfl K
      · exact absurd ((m1_lt 0 (by decide)).mpr rfl) c21
    | succ k ih =>
      intro f hk K
      simp only [pk_m1]
      refine e_iload dX7_editsBetween_19 rfl (pn 21 rfl ?_)
      refine e_if_lt 205 dX7_editsBetween_21 (by decide) (fun c21 => ?_) (fun c21 => pn 24 rfl ?_)
      · exact absurd c21 (nI_pos (by omega))
      · exact me_cell h hf hi (by omega) f (ih _ (by omega) K)
  have outer : ∀ {r : Option Value} {w' : Wd} (k : Nat) (f : Nat → Int32), k ≤ u.length + 1 → EW mX7_editsBetween none 211 [.ref 41, .int (nI s), .int (nI t), dmy, dmy, dmy, dmy, dmy, dmy] [] (w.set 47 (aI 900 (meO u v k f))) r w' → EW mX7_editsBetween none 7 [.ref 41, .int (nI s), .int (nI t), .int (nI k + (-1)), dmy, dmy, dmy, dmy, dmy] [] (w.set 47 (aI 900 f)) r w' := by
    intro r w' k
    induction k with
    | zero =>
      intro f hk K
      refine e_iload_n dX7_editsBetween_7 rfl (pn 8 rfl ?_)
      refine e_if_lt 211 dX7_editsBetween_8 (by decide) (fun c8 => ?_) (fun c8 => pn 11 rfl ?_)
      · exact e_dr [_, _, _, _, _, _, _, _, _] 3 rfl K
      · exact absurd ((m1_lt 0 (by decide)).mpr rfl) c8
    | succ k ih =>
      intro f hk K
      have g1 : (w.set 47 (aI 900 f))[41]? = some (mdF D) := gne (by decide) hB.1
      have g2 : (w.set 47 (aI 900 f))[42]? = some (aI 24 mf) := gne (by decide) hB.2.1
      simp only [pk_m1]
      refine e_iload_n dX7_editsBetween_7 rfl (pn 8 rfl ?_)
      refine e_if_lt 211 dX7_editsBetween_8 (by decide) (fun c8 => ?_) (fun c8 => pn 11 rfl ?_)
      · exact absurd c8 (nI_pos (by omega))
      · refine e_aload_n dX7_editsBetween_11 rfl (pn 12 rfl ?_)
        refine e_get dX7_editsBetween_12 fl_X7_13 g1 rfl (pn 15 rfl ?_)
        refine e_iload_n dX7_editsBetween_15 rfl (pn 16 rfl ?_)
        refine e_iald (t) dX7_editsBetween_16 g2 rfl ht (by omega) (pn 17 rfl ?_)
        rw [hv.1, ← pk_m1 v.length]
        refine s_i [_, _, _, _, _, _, _, _, _] dX7_editsBetween_17 (Nat.le_of_ble_eq_true rfl) rfl (pn 19 rfl ?_)
        refine inner k (by omega) (v.length + 1) f (Nat.le_refl _) ?_
        refine s_inc [_, _, _, _, _, _, _, _, _] (-1) dX7_editsBetween_205 (by decide) rfl (Nat.le_of_ble_eq_true rfl) rfl (pn 208 rfl ?_)
        refine e_goto 7 dX7_editsBetween_208 (by decide) ?_
        exact ih _ (by omega) K
  refine cw_of (M := mX7_editsBetween) fx_X7_editsBetween (lv := [.ref 41, .int (nI s), .int (nI t), dmy, dmy, dmy, dmy, dmy, dmy]) rfl (Nat.le_of_ble_eq_true rfl) ?_
  refine e_aload_n dX7_editsBetween_0 rfl (pn 1 rfl ?_)
  refine e_get dX7_editsBetween_1 fl_X7_13 hB.1 rfl (pn 4 rfl ?_)
  refine e_iload_n dX7_editsBetween_4 rfl (pn 5 rfl ?_)
  refine e_iald (s) dX7_editsBetween_5 hB.2.1 rfl hs (by omega) (pn 6 rfl ?_)
  refine pw (set_id hf).symm ?_
  rw [hu.1, ← pk_m1 u.length]
  refine s_in [_, _, _, _, _, _, _, _, _] dX7_editsBetween_6 (Nat.le_of_ble_eq_true rfl) rfl (pn 7 rfl ?_)
  refine outer (u.length + 1) f0 (Nat.le_refl _) ?_
  have g1 : (w.set 47 (aI 900 (meO u v (u.length + 1) f0)))[41]? = some (mdF D) := gne (by decide) hB.1
  refine e_aload_n dX7_editsBetween_211 rfl (pn 212 rfl ?_)
  refine e_get dX7_editsBetween_212 fl_X7_34 g1 rfl (pn 215 rfl ?_)
  refine e_ic (0) dX7_editsBetween_215 (by decide) (pn 216 rfl ?_)
  refine e_iald (0) dX7_editsBetween_216 (gse hf) rfl (by decide) (by omega) (pn 217 rfl ?_)
  exact e_iret dX7_editsBetween_217 rfl rfl rfl
def lyI (u v : List Nat) (i : Nat) : Nat → (Nat → Int64) → Nat → Int64
  | 0, f => f
  | k + 1, f => lyI u v i k (va_up f (30 * i + k) (lyV f u v i k))
def lyO (u v : List Nat) : Nat → (Nat → Int64) → Nat → Int64
  | 0, f => f
  | k + 1, f => lyO u v k (lyI u v k (v.length + 1) f)
theorem q_lies {w : Wd} {D : Md} {mf lf : Nat → Int32} {s t : Nat} {u v : List Nat} (h : mT w D mf lf s t u v) {f0 : Nat → Int64} (hf : w[46]? = some (aJ 900 f0)) : CW mX7_lies [.ref 41, .int (nI s), .int (nI t)] w (some (.long (lyO u v (u.length + 1) f0 0))) (w.set 46 (aJ 900 (lyO u v (u.length + 1) f0))) := by
  obtain ⟨hB, ⟨hs, hu, oku⟩, ht, hv, okv⟩ := id h
  have b1 := oku.1
  have b2 := okv.1
  have inner : ∀ {r : Option Value} {w' : Wd} (i : Nat), i ≤ u.length → ∀ (k : Nat) (f : Nat → Int64), k ≤ v.length + 1 → EW mX7_lies none 146 [.ref 41, .int (nI s), .int (nI t), .int (nI i), dmy, dmy, dmy] [] (w.set 46 (aJ 900 (lyI u v i k f))) r w' → EW mX7_lies none 19 [.ref 41, .int (nI s), .int (nI t), .int (nI i), .int (nI k + (-1)), dmy, dmy] [] (w.set 46 (aJ 900 f)) r w' := by
    intro r w' i hi k
    induction k with
    | zero =>
      intro f hk K
      refine e_iload dX7_lies_19 rfl (pn 21 rfl ?_)
      refine e_if_lt 146 dX7_lies_21 (by decide) (fun c21 => ?_) (fun c21 => pn 24 rfl ?_)
      · exact e_dr [_, _, _, _, _, _, _] 4 rfl K
      · exact absurd ((m1_lt 0 (by decide)).mpr rfl) c21
    | succ k ih =>
      intro f hk K
      simp only [pk_m1]
      refine e_iload dX7_lies_19 rfl (pn 21 rfl ?_)
      refine e_if_lt 146 dX7_lies_21 (by decide) (fun c21 => ?_) (fun c21 => pn 24 rfl ?_)
      · exact absurd c21 (nI_pos (by omega))
      · exact ly_cell h hf hi (by omega) f (ih _ (by omega) K)
  have outer : ∀ {r : Option Value} {w' : Wd} (k : Nat) (f : Nat → Int64), k ≤ u.length + 1 → EW mX7_lies none 152 [.ref 41, .int (nI s), .int (nI t), dmy, dmy, dmy, dmy] [] (w.set 46 (aJ 900 (lyO u v k f))) r w' → EW mX7_lies none 7 [.ref 41, .int (nI s), .int (nI t), .int (nI k + (-1)), dmy, dmy, dmy] [] (w.set 46 (aJ 900 f)) r w' := by
    intro r w' k
    induction k with
    | zero =>
      intro f hk K
      refine e_iload_n dX7_lies_7 rfl (pn 8 rfl ?_)
      refine e_if_lt 152 dX7_lies_8 (by decide) (fun c8 => ?_) (fun c8 => pn 11 rfl ?_)
      · exact e_dr [_, _, _, _, _, _, _] 3 rfl K
      · exact absurd ((m1_lt 0 (by decide)).mpr rfl) c8
    | succ k ih =>
      intro f hk K
      have g1 : (w.set 46 (aJ 900 f))[41]? = some (mdF D) := gne (by decide) hB.1
      have g2 : (w.set 46 (aJ 900 f))[42]? = some (aI 24 mf) := gne (by decide) hB.2.1
      simp only [pk_m1]
      refine e_iload_n dX7_lies_7 rfl (pn 8 rfl ?_)
      refine e_if_lt 152 dX7_lies_8 (by decide) (fun c8 => ?_) (fun c8 => pn 11 rfl ?_)
      · exact absurd c8 (nI_pos (by omega))
      · refine e_aload_n dX7_lies_11 rfl (pn 12 rfl ?_)
        refine e_get dX7_lies_12 fl_X7_13 g1 rfl (pn 15 rfl ?_)
        refine e_iload_n dX7_lies_15 rfl (pn 16 rfl ?_)
        refine e_iald (t) dX7_lies_16 g2 rfl ht (by omega) (pn 17 rfl ?_)
        rw [hv.1, ← pk_m1 v.length]
        refine s_i [_, _, _, _, _, _, _] dX7_lies_17 (Nat.le_of_ble_eq_true rfl) rfl (pn 19 rfl ?_)
        refine inner k (by omega) (v.length + 1) f (Nat.le_refl _) ?_
        refine s_inc [_, _, _, _, _, _, _] (-1) dX7_lies_146 (by decide) rfl (Nat.le_of_ble_eq_true rfl) rfl (pn 149 rfl ?_)
        refine e_goto 7 dX7_lies_149 (by decide) ?_
        exact ih _ (by omega) K
  refine cw_of (M := mX7_lies) fx_X7_lies (lv := [.ref 41, .int (nI s), .int (nI t), dmy, dmy, dmy, dmy]) rfl (Nat.le_of_ble_eq_true rfl) ?_
  refine e_aload_n dX7_lies_0 rfl (pn 1 rfl ?_)
  refine e_get dX7_lies_1 fl_X7_13 hB.1 rfl (pn 4 rfl ?_)
  refine e_iload_n dX7_lies_4 rfl (pn 5 rfl ?_)
  refine e_iald (s) dX7_lies_5 hB.2.1 rfl hs (by omega) (pn 6 rfl ?_)
  refine pw (set_id hf).symm ?_
  rw [hu.1, ← pk_m1 u.length]
  refine s_in [_, _, _, _, _, _, _] dX7_lies_6 (Nat.le_of_ble_eq_true rfl) rfl (pn 7 rfl ?_)
  refine outer (u.length + 1) f0 (Nat.le_refl _) ?_
  have g1 : (w.set 46 (aJ 900 (lyO u v (u.length + 1) f0)))[41]? = some (mdF D) := gne (by decide) hB.1
  refine e_aload_n dX7_lies_152 rfl (pn 153 rfl ?_)
  refine e_get dX7_lies_153 fl_X7_30 g1 rfl (pn 156 rfl ?_)
  refine e_ic (0) dX7_lies_156 (by decide) (pn 157 rfl ?_)
  refine e_lald (0) dX7_lies_157 (gse hf) rfl (by decide) (by omega) (pn 158 rfl ?_)
  exact e_lret dX7_lies_158 rfl rfl rfl
