/-! LostLetters$Traces: this at 26, rows at 27 (28 to 35), embedded at 36, tried at 37, best at 38 -/
abbrev tcF (size q n : Nat) (found : Int32) (bp : Int64) : Cel := oB 5 [.ref 27, .ref 36, .ref 37, .ref 38, .int (nI size), .int (nI q), .int (nI n), .int found, .long bp]
abbrev TS : Type := (Nat → Int32) × List Nat × List Nat × Int32 × Int64
abbrev wT (w : Wd) (size q n : Nat) (S : TS) : Wd := (((w.set 36 (aI 1352 S.1)).set 37 (rowW S.2.1)).set 38 (rowW S.2.2.1)).set 26 (tcF size q n S.2.2.2.1 S.2.2.2.2)
/-- the rows, and that the changing cells are there -/
def tH (w : Wd) (size : Nat) (rf : Nat → Option Nat) (tr : Nat → List Nat) : Prop := w[27]? = some (aR 8 rf) ∧ (∀ k, k < 8 → rf k = some (28 + k)) ∧ (∀ k, k < size → w[28 + k]? = some (rowW (tr k)) ∧ okW (tr k)) ∧ size ≤ 8 ∧ (∃ c, w[26]? = some c) ∧ (∃ c, w[36]? = some c) ∧ (∃ c, w[37]? = some c) ∧ ∃ c, w[38]? = some c
theorem tH.up {w : Wd} {size : Nat} {rf : Nat → Option Nat} {tr : Nat → List Nat} (h : tH w size rf tr) (q n : Nat) (S : TS) : tH (wT w size q n S) size rf tr ∧ (wT w size q n S)[26]? = some (tcF size q n S.2.2.2.1 S.2.2.2.2) ∧ (wT w size q n S)[36]? = some (aI 1352 S.1) ∧ (wT w size q n S)[37]? = some (rowW S.2.1) ∧ (wT w size q n S)[38]? = some (rowW S.2.2.1) := by
  obtain ⟨h1, h2, h3, h4, ⟨c1, h5⟩, ⟨c2, h6⟩, ⟨c3, h7⟩, ⟨c4, h8⟩⟩ := h
  have g26 : (wT w size q n S)[26]? = some (tcF size q n S.2.2.2.1 S.2.2.2.2) := gse (gne (by decide) (gne (by decide) (gne (by decide) h5)))
  have g36 : (wT w size q n S)[36]? = some (aI 1352 S.1) := gne (by decide) (gne (by decide) (gne (by decide) (gse h6)))
  have g37 : (wT w size q n S)[37]? = some (rowW S.2.1) := gne (by decide) (gne (by decide) (gse (gne (by decide) h7)))
  have g38 : (wT w size q n S)[38]? = some (rowW S.2.2.1) := gne (by decide) (gse (gne (by decide) (gne (by decide) h8)))
  refine ⟨⟨gne (by decide) (gne (by decide) (gne (by decide) (gne (by decide) h1))), h2, fun k hk => ⟨gne (by omega) (gne (by omega) (gne (by omega) (gne (by omega) (h3 k hk).1))), (h3 k hk).2⟩, h4, ⟨_, g26⟩, ⟨_, g36⟩, ⟨_, g37⟩, ⟨_, g38⟩⟩, g26, g36, g37, g38⟩
theorem wT36 (w : Wd) (size q n : Nat) (S : TS) (e : Nat → Int32) : (wT w size q n S).set 36 (aI 1352 e) = wT w size q n (e, S.2) := by
  show ((((w.set 36 _).set 37 _).set 38 _).set 26 _).set 36 _ = _
  rw [List.set_comm _ _ (show 26 ≠ 36 by decide), List.set_comm _ _ (show 38 ≠ 36 by decide), List.set_comm _ _ (show 37 ≠ 36 by decide), List.set_set]
theorem wT37 (w : Wd) (size q n : Nat) (S : TS) (v : List Nat) : (wT w size q n S).set 37 (rowW v) = wT w size q n (S.1, v, S.2.2) := by
  show ((((w.set 36 _).set 37 _).set 38 _).set 26 _).set 37 _ = _
  rw [List.set_comm _ _ (show 26 ≠ 37 by decide), List.set_comm _ _ (show 38 ≠ 37 by decide), List.set_set]
theorem wT38 (w : Wd) (size q n : Nat) (S : TS) (v : List Nat) : (wT w size q n S).set 38 (rowW v) = wT w size q n (S.1, S.2.1, v, S.2.2.2) := by
  show ((((w.set 36 _).set 37 _).set 38 _).set 26 _).set 38 _ = _
  rw [List.set_comm _ _ (show 26 ≠ 38 by decide), List.set_set]
theorem wT26 (w : Wd) (size q n : Nat) (S : TS) (f : Int32) (bp : Int64) : (wT w size q n S).set 26 (tcF size q n f bp) = wT w size q n (S.1, S.2.1, S.2.2.1, f, bp) := by
  show ((((w.set 36 _).set 37 _).set 38 _).set 26 _).set 26 _ = _
  rw [List.set_set]
theorem t_cell (w : Wd) (x y z : Int32) : CW mX5_cell [.int x, .int y, .int z] w (some (.int ((x * 8 + y) * 13 + z))) w := by
  refine cw_of (M := mX5_cell) fx_X5_cell (lv := [.int x, .int y, .int z]) rfl (Nat.le_of_ble_eq_true rfl) ?_
  refine e_iload_n dX5_cell_0 rfl (pn 1 rfl ?_)
  refine e_bi (8) dX5_cell_1 (by decide) (pn 3 rfl ?_)
  refine e_imul dX5_cell_3 (pn 4 rfl ?_)
  refine e_iload_n dX5_cell_4 rfl (pn 5 rfl ?_)
  refine e_iadd dX5_cell_5 (pn 6 rfl ?_)
  refine e_bi (13) dX5_cell_6 (by decide) (pn 8 rfl ?_)
  refine e_imul dX5_cell_8 (pn 9 rfl ?_)
  refine e_iload_n dX5_cell_9 rfl (pn 10 rfl ?_)
  refine e_iadd dX5_cell_10 (pn 11 rfl ?_)
  exact e_iret dX5_cell_11 rfl rfl rfl
theorem tx (d j k : Nat) : (nI d * 8 + nI j) * 13 + nI k = nI ((d * 8 + j) * 13 + k) := by
  rw [show (8 : Int32) = nI 8 from rfl, show (13 : Int32) = nI 13 from rfl, pk_mul, nI_add, pk_mul, nI_add]
def foK (r : List Nat) (l d fr to : Nat) : Nat → Nat → (Nat → Int32) → Nat → Int32
  | 0, _, e => e
  | c + 1, k, e => foK r l d fr to c (k + 1) (va_up e (to + k) (if 0 < k ∧ r.getD (k - 1) 0 = l then (if k ≤ d then e (fr + k) else 0) + e (fr + k - 1) else (if k ≤ d then e (fr + k) else 0)))
def foL (r : List Nat) (n d : Nat) : Nat := r.length - (n - d - 1)
def foH (r : List Nat) (d : Nat) : Nat := if d + 1 < r.length then d + 1 else r.length
def foE (r : List Nat) (n d l j : Nat) (e : Nat → Int32) : Nat → Int32 := foK r l d ((d * 8 + j) * 13) (((d + 1) * 8 + j) * 13) (foH r d + 1 - foL r n d) (foL r n d) e
def foB (r : List Nat) (n d l j : Nat) (e : Nat → Int32) : Bool := decide (0 < foE r n d l j e (((d + 1) * 8 + j) * 13 + foL r n d))
theorem low_val {a n d : Nat} (ha : a ≤ 24) (hn : n ≤ 12) (hd : d < n) : (if (0 : Int32) < nI a - (nI n - nI d - 1) then nI a - (nI n - nI d - 1) else 0) = nI (a - (n - d - 1)) := by
  rw [pk_sub (show d ≤ n by omega), show nI (n - d) - 1 = nI (n - d - 1) from pk_sub (b := 1) (by omega)]
  by_cases h : n - d - 1 ≤ a
  · rw [pk_sub h]
    by_cases h2 : a - (n - d - 1) = 0
    · rw [h2]; decide
    · exact if_pos (nI_lt (a := 0) (b := a - (n - d - 1)) (by omega) (by omega))
  · have h3 : nI a - nI (n - d - 1) < 0 := pk_sneg (by omega) (by omega)
    rw [if_neg (by rw [fa_lt] at h3 ⊢; show ¬ (0 : Int32).toInt < _; have : (0 : Int32).toInt = 0 := by decide
                   omega), show a - (n - d - 1) = 0 by omega]
    rfl
theorem high_val {a d : Nat} (ha : a ≤ 24) (hd : d ≤ 12) : (if nI d + 1 < nI a then nI d + 1 else nI a) = nI (if d + 1 < a then d + 1 else a) := by
  rw [nI_1]
  by_cases h : d + 1 < a
  · rw [if_pos h, if_pos (nI_lt h (by omega))]
  · rw [if_neg h, if_neg (nI_nlt (by omega) (by omega))]
theorem t_fo {w : Wd} {size q n : Nat} {rf : Nat → Option Nat} {tr : Nat → List Nat} (h : tH w size rf tr) (S : TS) (hn : n ≤ 12) {j d l : Nat} (hj : j < size) (hd : d < n) (hl : l < 4) (hlen : (tr j).length ≤ n) : CW mX5_follows [.ref 26, .int (nI j), .int (nI d), .int (nI l)] (wT w size q n S) (some (.int (bI (foB (tr j) n d l j S.1)))) (wT w size q n (foE (tr j) n d l j S.1, S.2)) := by
  have ok := (h.2.2.1 j hj).2
  have hsz := h.2.2.2.1
  generalize hr : tr j = r at *
  have loop : ∀ {rr : Option Value} {w' : Wd} (lo hi : Nat), lo ≤ hi + 1 → hi ≤ 12 → hi ≤ r.length → hi ≤ d + 1 → ∀ (c k : Nat) (e : Nat → Int32), k + c = hi + 1 → EW mX5_follows none 145 [.ref 26, .int (nI j), .int (nI d), .int (nI l), .ref (28 + j), .int (nI lo), .int (nI hi), .int (nI ((d * 8 + j) * 13)), .int (nI (((d + 1) * 8 + j) * 13)), dmy, dmy] [] (wT w size q n (foK r l d ((d * 8 + j) * 13) (((d + 1) * 8 + j) * 13) c k e, S.2)) rr w' → EW mX5_follows none 63 [.ref 26, .int (nI j), .int (nI d), .int (nI l), .ref (28 + j), .int (nI lo), .int (nI hi), .int (nI ((d * 8 + j) * 13)), .int (nI (((d + 1) * 8 + j) * 13)), .int (nI k), dmy] [] (wT w size q n (e, S.2)) rr w' := by
    intro rr w' lo hi hlo hhi hhr hhd c
    induction c with
    | zero =>
      intro k e hk K
      refine e_iload dX5_follows_63 rfl (pn 65 rfl ?_)
      refine e_iload dX5_follows_65 rfl (pn 67 rfl ?_)
      refine e_icmp_gt 145 dX5_follows_67 (by decide) (fun c67 => ?_) (fun c67 => pn 70 rfl ?_)
      · exact e_dr [_, _, _, _, _, _, _, _, _, _, _] 9 rfl K
      · exact absurd (nI_lt (by omega) (by omega)) c67
    | succ c ih =>
      intro k e hk K
      obtain ⟨g, g26, g36, g37, g38⟩ := h.up q n (e, S.2)
      have gr := (g.2.2.1 j hj).1
      rw [hr] at gr
      -- behind the first half: 'often' stands in its place
      have tail : ∀ o : Int32, o = (if k ≤ d then e ((d * 8 + j) * 13 + k) else 0) → EW mX5_follows none 92 [.ref 26, .int (nI j), .int (nI d), .int (nI l), .ref (28 + j), .int (nI lo), .int (nI hi), .int (nI ((d * 8 + j) * 13)), .int (nI (((d + 1) * 8 + j) * 13)), .int (nI k), .int o] [] (wT w size q n (e, S.2)) rr w' := by
        intro o ho
        have fin : ∀ o2 : Int32, o2 = (if 0 < k ∧ r.getD (k - 1) 0 = l then o + e ((d * 8 + j) * 13 + k - 1) else o) → EW mX5_follows none 127 [.ref 26, .int (nI j), .int (nI d), .int (nI l), .ref (28 + j), .int (nI lo), .int (nI hi), .int (nI ((d * 8 + j) * 13)), .int (nI (((d + 1) * 8 + j) * 13)), .int (nI k), .int o2] [] (wT w size q n (e, S.2)) rr w' := by
          intro o2 ho2
          rw [foK] at K
          rw [← ho, ← ho2] at K
          refine e_aload_n dX5_follows_127 rfl (pn 128 rfl ?_)
          refine e_get dX5_follows_128 fl_X5_18 g26 rfl (pn 131 rfl ?_)
          refine e_iload dX5_follows_131 rfl (pn 133 rfl ?_)
          refine e_iload dX5_follows_133 rfl (pn 135 rfl ?_)
          refine e_iadd dX5_follows_135 (pn 136 rfl ?_)
          refine e_iload dX5_follows_136 rfl (pn 138 rfl ?_)
          refine e_iast (((d + 1) * 8 + j) * 13 + k) dX5_follows_138 g36 (nI_add _ _) (by omega) (by omega) (pn 139 rfl ?_)
          rw [wT36]
          refine s_inc [_, _, _, _, _, _, _, _, _, _, _] (1) dX5_follows_139 (by decide) rfl (Nat.le_of_ble_eq_true rfl) rfl (pn 142 rfl ?_)
          refine e_goto 63 dX5_follows_142 (by decide) ?_
          rw [nI_1]
          exact e_dr [_, _, _, _, _, _, _, _, _, _, _] 10 rfl (ih (k + 1) _ (by omega) K)
        refine e_iload dX5_follows_92 rfl (pn 94 rfl ?_)
        refine e_if_le 127 dX5_follows_94 (by decide) (fun c94 => ?_) (fun c94 => pn 97 rfl ?_)
        · have hk0 : ¬ 0 < k := fun e9 => nI_nle e9 (by omega) c94
          exact fin o (by rw [if_neg (fun e9 => hk0 e9.1)])
        · have hk0 : 0 < k := Nat.pos_of_ne_zero (fun e9 => c94 (by rw [e9]; decide))
          refine e_aload dX5_follows_97 rfl (pn 99 rfl ?_)
          refine e_iload dX5_follows_99 rfl (pn 101 rfl ?_)
          refine e_ic (1) dX5_follows_101 (by decide) (pn 102 rfl ?_)
          refine e_isub dX5_follows_102 (pn 103 rfl ?_)
          rw [show nI k - 1 = nI (k - 1) from pk_sub (b := 1) hk0]
          refine c_V1 dX5_follows_103 ml_X5_87 mv_X4_letter (by decide) (w_letter ok gr (show k - 1 < 32 by omega)) gr rfl rfl (Nat.le_of_ble_eq_true rfl) (pn 106 rfl ?_)
          refine e_iload_n dX5_follows_106 rfl (pn 107 rfl ?_)
          have r4 := okL_get ok.2 (k - 1)
          refine e_icmp_ne 127 dX5_follows_107 (by decide) (fun c107 => ?_) (fun c107 => pn 110 rfl ?_)
          · have hne : ¬ r.getD (k - 1) 0 = l := fun e9 => c107 (by rw [e9])
            exact fin o (by rw [if_neg (fun e9 => hne e9.2)])
          · have he : r.getD (k - 1) 0 = l := (nI_eq (by omega) (by omega)).mp c107
            refine e_iload dX5_follows_110 rfl (pn 112 rfl ?_)
            refine e_aload_n dX5_follows_112 rfl (pn 113 rfl ?_)
            refine e_get dX5_follows_113 fl_X5_18 g26 rfl (pn 116 rfl ?_)
            refine e_iload dX5_follows_116 rfl (pn 118 rfl ?_)
            refine e_iload dX5_follows_118 rfl (pn 120 rfl ?_)
            refine e_iadd dX5_follows_120 (pn 121 rfl ?_)
            refine e_ic (1) dX5_follows_121 (by decide) (pn 122 rfl ?_)
            refine e_isub dX5_follows_122 (pn 123 rfl ?_)
            refine e_iald ((d * 8 + j) * 13 + k - 1) dX5_follows_123 g36 (by rw [nI_add]; exact pk_sub (b := 1) (by omega)) (by omega) (by omega) (pn 124 rfl ?_)
            refine e_iadd dX5_follows_124 (pn 125 rfl ?_)
            refine s_i [_, _, _, _, _, _, _, _, _, _, _] dX5_follows_125 (Nat.le_of_ble_eq_true rfl) rfl (pn 127 rfl ?_)
            exact fin _ (by rw [if_pos ⟨hk0, he⟩])
      refine e_iload dX5_follows_63 rfl (pn 65 rfl ?_)
      refine e_iload dX5_follows_65 rfl (pn 67 rfl ?_)
      refine e_icmp_gt 145 dX5_follows_67 (by decide) (fun c67 => ?_) (fun c67 => pn 70 rfl ?_)
      · exact absurd c67 (nI_nlt (by omega) (by omega))
      · refine e_iload dX5_follows_70 rfl (pn 72 rfl ?_)
        refine e_iload_n dX5_follows_72 rfl (pn 73 rfl ?_)
        refine e_icmp_gt 89 dX5_follows_73 (by decide) (fun c73 => ?_) (fun c73 => pn 76 rfl ?_)
        · have hkd : ¬ k ≤ d := fun e9 => nI_nlt e9 (by omega) c73
          refine e_ic (0) dX5_follows_89 (by decide) (pn 90 rfl ?_)
          refine s_i [_, _, _, _, _, _, _, _, _, _, _] dX5_follows_90 (Nat.le_of_ble_eq_true rfl) rfl (pn 92 rfl ?_)
          exact tail 0 (by rw [if_neg hkd])
        · have hkd : k ≤ d := Nat.le_of_not_lt (fun e9 => c73 (nI_lt e9 (by omega)))
          refine e_aload_n dX5_follows_76 rfl (pn 77 rfl ?_)
          refine e_get dX5_follows_77 fl_X5_18 g26 rfl (pn 80 rfl ?_)
          refine e_iload dX5_follows_80 rfl (pn 82 rfl ?_)
          refine e_iload dX5_follows_82 rfl (pn 84 rfl ?_)
          refine e_iadd dX5_follows_84 (pn 85 rfl ?_)
          refine e_iald ((d * 8 + j) * 13 + k) dX5_follows_85 g36 (nI_add _ _) (by omega) (by omega) (pn 86 rfl ?_)
          refine e_goto 90 dX5_follows_86 (by decide) ?_
          refine s_i [_, _, _, _, _, _, _, _, _, _, _] dX5_follows_90 (Nat.le_of_ble_eq_true rfl) rfl (pn 92 rfl ?_)
          exact tail _ (by rw [if_pos hkd])
  obtain ⟨g, g26, g36, g37, g38⟩ := h.up q n S
  have gr := (g.2.2.1 j hj).1
  rw [hr] at gr
  have hH : foH r d ≤ 12 ∧ foH r d ≤ r.length ∧ foH r d ≤ d + 1 ∧ foL r n d ≤ foH r d := by unfold foH foL; split <;> omega
  refine cw_of (M := mX5_follows) fx_X5_follows (lv := [.ref 26, .int (nI j), .int (nI d), .int (nI l), dmy, dmy, dmy, dmy, dmy, dmy, dmy]) rfl (Nat.le_of_ble_eq_true rfl) ?_
  refine e_aload_n dX5_follows_0 rfl (pn 1 rfl ?_)
  refine e_get dX5_follows_1 fl_X5_11 g26 rfl (pn 4 rfl ?_)
  refine e_iload_n dX5_follows_4 rfl (pn 5 rfl ?_)
  refine e_aald (j) dX5_follows_5 g.1 rfl (by omega) (by omega) (h.2.1 j (by omega)) (pn 6 rfl ?_)
  refine s_a [_, _, _, _, _, _, _, _, _, _, _] dX5_follows_6 (Nat.le_of_ble_eq_true rfl) rfl (pn 8 rfl ?_)
  refine e_ic (0) dX5_follows_8 (by decide) (pn 9 rfl ?_)
  refine e_aload dX5_follows_9 rfl (pn 11 rfl ?_)
  refine e_get dX5_follows_11 fl_X5_54 gr rfl (pn 14 rfl ?_)
  refine e_aload_n dX5_follows_14 rfl (pn 15 rfl ?_)
  refine e_get dX5_follows_15 fl_X5_40 g26 rfl (pn 18 rfl ?_)
  refine e_iload_n dX5_follows_18 rfl (pn 19 rfl ?_)
  refine e_isub dX5_follows_19 (pn 20 rfl ?_)
  refine e_ic (1) dX5_follows_20 (by decide) (pn 21 rfl ?_)
  refine e_isub dX5_follows_21 (pn 22 rfl ?_)
  refine e_isub dX5_follows_22 (pn 23 rfl ?_)
  refine e_mmax dX5_follows_23 lm_X5_78 (by decide) (Nat.le_of_ble_eq_true rfl) (pn 26 rfl ?_)
  rw [low_val ok.1 hn hd]
  refine s_i [_, _, _, _, _, _, _, _, _, _, _] dX5_follows_26 (Nat.le_of_ble_eq_true rfl) rfl (pn 28 rfl ?_)
  refine e_aload dX5_follows_28 rfl (pn 30 rfl ?_)
  refine e_get dX5_follows_30 fl_X5_54 gr rfl (pn 33 rfl ?_)
  refine e_iload_n dX5_follows_33 rfl (pn 34 rfl ?_)
  refine e_ic (1) dX5_follows_34 (by decide) (pn 35 rfl ?_)
  refine e_iadd dX5_follows_35 (pn 36 rfl ?_)
  refine e_mmin dX5_follows_36 lm_X5_84 (by decide) (Nat.le_of_ble_eq_true rfl) (pn 39 rfl ?_)
  rw [high_val ok.1 (by omega)]
  refine s_i [_, _, _, _, _, _, _, _, _, _, _] dX5_follows_39 (Nat.le_of_ble_eq_true rfl) rfl (pn 41 rfl ?_)
  refine e_iload_n dX5_follows_41 rfl (pn 42 rfl ?_)
  refine e_iload_n dX5_follows_42 rfl (pn 43 rfl ?_)
  refine e_ic (0) dX5_follows_43 (by decide) (pn 44 rfl ?_)
  refine c_S1 dX5_follows_44 ml_X5_55 ms_X5_cell (by decide) (t_cell _ _ _ _) rfl rfl (Nat.le_of_ble_eq_true rfl) (pn 47 rfl ?_)
  refine s_i [_, _, _, _, _, _, _, _, _, _, _] dX5_follows_47 (Nat.le_of_ble_eq_true rfl) rfl (pn 49 rfl ?_)
  refine e_iload_n dX5_follows_49 rfl (pn 50 rfl ?_)
  refine e_ic (1) dX5_follows_50 (by decide) (pn 51 rfl ?_)
  refine e_iadd dX5_follows_51 (pn 52 rfl ?_)
  refine e_iload_n dX5_follows_52 rfl (pn 53 rfl ?_)
  refine e_ic (0) dX5_follows_53 (by decide) (pn 54 rfl ?_)
  refine c_S1 dX5_follows_54 ml_X5_55 ms_X5_cell (by decide) (t_cell _ _ _ _) rfl rfl (Nat.le_of_ble_eq_true rfl) (pn 57 rfl ?_)
  rw [nI_1, show (0 : Int32) = nI 0 from rfl, tx, tx]
  refine s_i [_, _, _, _, _, _, _, _, _, _, _] dX5_follows_57 (Nat.le_of_ble_eq_true rfl) rfl (pn 59 rfl ?_)
  refine e_iload dX5_follows_59 rfl (pn 61 rfl ?_)
  refine s_i [_, _, _, _, _, _, _, _, _, _, _] dX5_follows_61 (Nat.le_of_ble_eq_true rfl) rfl (pn 63 rfl ?_)
  refine loop (foL r n d) (foH r d) (by omega) hH.1 hH.2.1 hH.2.2.1 (foH r d + 1 - foL r n d) (foL r n d) S.1 (by omega) ?_
  obtain ⟨g2, g226, g236, g237, g238⟩ := h.up q n (foE r n d l j S.1, S.2)
  refine e_aload_n dX5_follows_145 rfl (pn 146 rfl ?_)
  refine e_get dX5_follows_146 fl_X5_18 g226 rfl (pn 149 rfl ?_)
  refine e_iload dX5_follows_149 rfl (pn 151 rfl ?_)
  refine e_iload dX5_follows_151 rfl (pn 153 rfl ?_)
  refine e_iadd dX5_follows_153 (pn 154 rfl ?_)
  refine e_iald (((d + 1) * 8 + j) * 13 + foL r n d) dX5_follows_154 g236 (nI_add _ _) (by omega) (by omega) (pn 155 rfl ?_)
  refine e_if_le 162 dX5_follows_155 (by decide) (fun c155 => ?_) (fun c155 => pn 158 rfl ?_)
  · have c155 : foE r n d l j S.1 (((d + 1) * 8 + j) * 13 + foL r n d) ≤ 0 := c155
    have hb : foB r n d l j S.1 = false := by
      unfold foB
      rw [decide_eq_false_iff_not]
      intro e9
      rw [fa_lt] at e9
      rw [fa_le] at c155
      omega
    rw [hb]
    refine e_ic (0) dX5_follows_162 (by decide) (pn 163 rfl ?_)
    exact e_zret dX5_follows_163 rfl (by decide) rfl rfl
  · have c155 : ¬ foE r n d l j S.1 (((d + 1) * 8 + j) * 13 + foL r n d) ≤ 0 := c155
    have hb : foB r n d l j S.1 = true := by
      unfold foB
      rw [decide_eq_true_iff, fa_lt]
      rw [fa_le] at c155
      omega
    rw [hb]
    refine e_ic (1) dX5_follows_158 (by decide) (pn 159 rfl ?_)
    refine e_goto 163 dX5_follows_159 (by decide) ?_
    exact e_zret dX5_follows_163 rfl (by decide) rfl rfl
def afF (tr : Nat → List Nat) (n d l : Nat) : Nat → Nat → (Nat → Int32) → Bool × (Nat → Int32)
  | 0, _, e => (true, e)
  | c + 1, j, e => if foB (tr j) n d l j e then afF tr n d l c (j + 1) (foE (tr j) n d l j e) else (false, foE (tr j) n d l j e)
theorem t_af {w : Wd} {size q n : Nat} {rf : Nat → Option Nat} {tr : Nat → List Nat} (h : tH w size rf tr) (S : TS) (hn : n ≤ 12) {d l : Nat} (hd : d < n) (hl : l < 4) (hlen : ∀ j, j < size → (tr j).length ≤ n) : CW mX5_allFollow [.ref 26, .int (nI d), .int (nI l)] (wT w size q n S) (some (.int (bI (afF tr n d l size 0 S.1).1))) (wT w size q n ((afF tr n d l size 0 S.1).2, S.2)) := by
  have hsz := h.2.2.2.1
  have loop : ∀ (c j : Nat) (e : Nat → Int32), j + c = size → EW mX5_allFollow none 2 [.ref 26, .int (nI d), .int (nI l), .int (nI j)] [] (wT w size q n (e, S.2)) (some (.int (bI (afF tr n d l c j e).1))) (wT w size q n ((afF tr n d l c j e).2, S.2)) := by
    intro c
    induction c with
    | zero =>
      intro j e hj
      obtain ⟨g, g26, g36, g37, g38⟩ := h.up q n (e, S.2)
      refine e_iload_n dX5_allFollow_2 rfl (pn 3 rfl ?_)
      refine e_aload_n dX5_allFollow_3 rfl (pn 4 rfl ?_)
      refine e_get dX5_allFollow_4 fl_X5_29 g26 rfl (pn 7 rfl ?_)
      refine e_icmp_ge 28 dX5_allFollow_7 (by decide) (fun c7 => ?_) (fun c7 => pn 10 rfl ?_)
      · refine e_ic (1) dX5_allFollow_28 (by decide) (pn 29 rfl ?_)
        exact e_zret dX5_allFollow_29 rfl (by decide) rfl rfl
      · exact absurd (nI_le (by omega) (by omega)) c7
    | succ c ih =>
      intro j e hj
      obtain ⟨g, g26, g36, g37, g38⟩ := h.up q n (e, S.2)
      refine e_iload_n dX5_allFollow_2 rfl (pn 3 rfl ?_)
      refine e_aload_n dX5_allFollow_3 rfl (pn 4 rfl ?_)
      refine e_get dX5_allFollow_4 fl_X5_29 g26 rfl (pn 7 rfl ?_)
      refine e_icmp_ge 28 dX5_allFollow_7 (by decide) (fun c7 => ?_) (fun c7 => pn 10 rfl ?_)
      · exact absurd c7 (nI_ge (by omega) (by omega))
      · refine e_aload_n dX5_allFollow_10 rfl (pn 11 rfl ?_)
        refine e_iload_n dX5_allFollow_11 rfl (pn 12 rfl ?_)
        refine e_iload_n dX5_allFollow_12 rfl (pn 13 rfl ?_)
        refine e_iload_n dX5_allFollow_13 rfl (pn 14 rfl ?_)
        refine c_V1 dX5_allFollow_14 ml_X5_74 mv_X5_follows (by decide) (t_fo h (e, S.2) hn (show j < size by omega) hd hl (hlen j (by omega))) g26 rfl rfl (Nat.le_of_ble_eq_true rfl) (pn 17 rfl ?_)
        rw [afF]
        cases hB : foB (tr j) n d l j e with
        | true =>
          refine e_if_ne 22 dX5_allFollow_17 (by decide) (fun c17 => ?_) (fun c17 => pn 20 rfl ?_)
          · refine s_inc [_, _, _, _] (1) dX5_allFollow_22 (by decide) rfl (Nat.le_of_ble_eq_true rfl) rfl (pn 25 rfl ?_)
            refine e_goto 2 dX5_allFollow_25 (by decide) ?_
            rw [nI_1]
            exact ih (j + 1) _ (by omega)
          · exact absurd c17 (by decide)
        | false =>
          refine e_if_ne 22 dX5_allFollow_17 (by decide) (fun c17 => ?_) (fun c17 => pn 20 rfl ?_)
          · exact absurd rfl c17
          · refine e_ic (0) dX5_allFollow_20 (by decide) (pn 21 rfl ?_)
            exact e_zret dX5_allFollow_21 rfl (by decide) rfl rfl
  refine cw_of (M := mX5_allFollow) fx_X5_allFollow (lv := [.ref 26, .int (nI d), .int (nI l), dmy]) rfl (Nat.le_of_ble_eq_true rfl) ?_
  refine e_ic (0) dX5_allFollow_0 (by decide) (pn 1 rfl ?_)
  refine s_in [_, _, _, _] dX5_allFollow_1 (Nat.le_of_ble_eq_true rfl) rfl (pn 2 rfl ?_)
  exact loop size 0 S.1 (by omega)
def mnP (y : Int64) : Int64 := if y < 1000000000000000 then y else 1000000000000000
def wgP (mn : Int64 → Int64) (tr : Nat → List Nat) (n : Nat) (e : Nat → Int32) : Nat → Nat → Int64 → Int64
  | 0, _, P => P
  | c + 1, j, P => wgP mn tr n e c (j + 1) (mn (P * (e ((n * 8 + j) * 13 + (tr j).length)).toInt64))
def wgV (P : (Nat → Int32) → Int64) (S : TS) : TS := if S.2.2.2.2 < P S.1 then (S.1, S.2.1, S.2.1, S.2.2.2.1 + 1, P S.1) else (S.1, S.2.1, S.2.2.1, S.2.2.2.1 + 1, S.2.2.2.2)
theorem cmp_le (x y : Int64) : lg_cmp x y ≤ 0 ↔ ¬ y < x := by
  unfold lg_cmp
  by_cases h : y < x
  · rw [if_pos h]; exact ⟨fun e => absurd e (by decide), fun e => absurd h e⟩
  · rw [if_neg h]
    refine ⟨fun _ => h, fun _ => ?_⟩
    split <;> decide
theorem t_wg {w : Wd} {size q n : Nat} {rf : Nat → Option Nat} {tr : Nat → List Nat} (h : tH w size rf tr) (S : TS) (hn : n ≤ 12) (hlen : ∀ j, j < size → (tr j).length ≤ n) {mn : Int64 → Int64} (hmn : ∀ y, mn y = mnP y) : CW mX5_weigh [.ref 26] (wT w size q n S) none (wT w size q n (wgV (fun e => wgP mn tr n e size 0 1) S)) := by
  have hsz := h.2.2.2.1
  have loop : ∀ {rr : Option Value} {w' : Wd} (c j : Nat) (P : Int64), j + c = size → EW mX5_weigh none 60 [.ref 26, .long (wgP mn tr n S.1 c j P), dmy, dmy] [] (wT w size q n (S.1, S.2.1, S.2.2.1, S.2.2.2.1 + 1, S.2.2.2.2)) rr w' → EW mX5_weigh none 14 [.ref 26, .long P, dmy, .int (nI j)] [] (wT w size q n (S.1, S.2.1, S.2.2.1, S.2.2.2.1 + 1, S.2.2.2.2)) rr w' := by
    intro rr w' c
    obtain ⟨g, g26, g36, g37, g38⟩ := h.up q n (S.1, S.2.1, S.2.2.1, S.2.2.2.1 + 1, S.2.2.2.2)
    induction c with
    | zero =>
      intro j P hj K
      refine e_iload_n dX5_weigh_14 rfl (pn 15 rfl ?_)
      refine e_aload_n dX5_weigh_15 rfl (pn 16 rfl ?_)
      refine e_get dX5_weigh_16 fl_X5_29 g26 rfl (pn 19 rfl ?_)
      refine e_icmp_ge 60 dX5_weigh_19 (by decide) (fun c19 => ?_) (fun c19 => pn 22 rfl ?_)
      · exact e_dr [_, _, _, _] 3 rfl K
      · exact absurd (nI_le (by omega) (by omega)) c19
    | succ c ih =>
      intro j P hj K
      have gr := (g.2.2.1 j (by omega)).1
      have hl := hlen j (by omega)
      rw [wgP, hmn] at K
      refine e_iload_n dX5_weigh_14 rfl (pn 15 rfl ?_)
      refine e_aload_n dX5_weigh_15 rfl (pn 16 rfl ?_)
      refine e_get dX5_weigh_16 fl_X5_29 g26 rfl (pn 19 rfl ?_)
      refine e_icmp_ge 60 dX5_weigh_19 (by decide) (fun c19 => ?_) (fun c19 => pn 22 rfl ?_)
      · exact absurd c19 (nI_ge (by omega) (by omega))
      · refine e_ldc2 dX5_weigh_22 lk_X5_91 (pn 25 rfl ?_)
        refine e_lload_n dX5_weigh_25 rfl (pn 26 rfl ?_)
        refine e_aload_n dX5_weigh_26 rfl (pn 27 rfl ?_)
        refine e_get dX5_weigh_27 fl_X5_18 g26 rfl (pn 30 rfl ?_)
        refine e_aload_n dX5_weigh_30 rfl (pn 31 rfl ?_)
        refine e_get dX5_weigh_31 fl_X5_40 g26 rfl (pn 34 rfl ?_)
        refine e_iload_n dX5_weigh_34 rfl (pn 35 rfl ?_)
        refine e_aload_n dX5_weigh_35 rfl (pn 36 rfl ?_)
        refine e_get dX5_weigh_36 fl_X5_11 g26 rfl (pn 39 rfl ?_)
        refine e_iload_n dX5_weigh_39 rfl (pn 40 rfl ?_)
        refine e_aald (j) dX5_weigh_40 g.1 rfl (by omega) (by omega) (h.2.1 j (by omega)) (pn 41 rfl ?_)
        refine e_get dX5_weigh_41 fl_X5_54 gr rfl (pn 44 rfl ?_)
        refine c_S1 dX5_weigh_44 ml_X5_55 ms_X5_cell (by decide) (t_cell _ _ _ _) rfl rfl (Nat.le_of_ble_eq_true rfl) (pn 47 rfl ?_)
        refine e_iald ((n * 8 + j) * 13 + (tr j).length) dX5_weigh_47 g36 (tx _ _ _) (by omega) (by omega) (pn 48 rfl ?_)
        refine e_i2l dX5_weigh_48 (pn 49 rfl ?_)
        refine e_lmul dX5_weigh_49 (pn 50 rfl ?_)
        refine e_lmin dX5_weigh_50 lm_X5_93 (by decide) (Nat.le_of_ble_eq_true rfl) (pn 53 rfl ?_)
        refine s_ln [_, _, _, _] dX5_weigh_53 (Nat.le_of_ble_eq_true rfl) rfl (pn 54 rfl ?_)
        refine s_inc [_, _, _, _] (1) dX5_weigh_54 (by decide) rfl (Nat.le_of_ble_eq_true rfl) rfl (pn 57 rfl ?_)
        refine e_goto 14 dX5_weigh_57 (by decide) ?_
        rw [nI_1]
        exact ih (j + 1) _ (by omega) K
  obtain ⟨g, g26, g36, g37, g38⟩ := h.up q n S
  obtain ⟨k, k26, k36, k37, k38⟩ := h.up q n (S.1, S.2.1, S.2.2.1, S.2.2.2.1 + 1, S.2.2.2.2)
  refine cw_of (M := mX5_weigh) fx_X5_weigh (lv := [.ref 26, dmy, dmy, dmy]) rfl (Nat.le_of_ble_eq_true rfl) ?_
  refine e_aload_n dX5_weigh_0 rfl (pn 1 rfl ?_)
  refine e_dup dX5_weigh_1 rfl (pn 2 rfl ?_)
  refine e_get dX5_weigh_2 fl_X5_43 g26 rfl (pn 5 rfl ?_)
  refine e_ic (1) dX5_weigh_5 (by decide) (pn 6 rfl ?_)
  refine e_iadd dX5_weigh_6 (pn 7 rfl ?_)
  refine e_put dX5_weigh_7 fp_X5_43 g26 rfl (Nat.le_of_ble_eq_true rfl) (pn 10 rfl ?_)
  refine pw (w1 := wT w size q n (S.1, S.2.1, S.2.2.1, S.2.2.2.1 + 1, S.2.2.2.2)) (wT26 w size q n S _ _) ?_
  refine e_lc (1) dX5_weigh_10 (by decide) (pn 11 rfl ?_)
  refine s_ln [_, _, _, _] dX5_weigh_11 (Nat.le_of_ble_eq_true rfl) rfl (pn 12 rfl ?_)
  refine e_ic (0) dX5_weigh_12 (by decide) (pn 13 rfl ?_)
  refine s_in [_, _, _, _] dX5_weigh_13 (Nat.le_of_ble_eq_true rfl) rfl (pn 14 rfl ?_)
  obtain ⟨P, hP⟩ : ∃ P, wgP mn tr n S.1 size 0 1 = P := ⟨_, rfl⟩
  have hV : wgV (fun e => wgP mn tr n e size 0 1) S = if S.2.2.2.2 < P then (S.1, S.2.1, S.2.1, S.2.2.2.1 + 1, P) else (S.1, S.2.1, S.2.2.1, S.2.2.2.1 + 1, S.2.2.2.2) := by
    rw [← hP]; rfl
  refine loop size 0 1 (by omega) ?_
  rw [hV, hP]
  refine e_lload_n dX5_weigh_60 rfl (pn 61 rfl ?_)
  refine e_aload_n dX5_weigh_61 rfl (pn 62 rfl ?_)
  refine e_get dX5_weigh_62 fl_X5_46 k26 rfl (pn 65 rfl ?_)
  refine e_lcmp dX5_weigh_65 (pn 66 rfl ?_)
  refine e_if_le 85 dX5_weigh_66 (by decide) (fun c66 => ?_) (fun c66 => pn 69 rfl ?_)
  · have hc : ¬ S.2.2.2.2 < P := (cmp_le _ _).mp c66
    rw [if_neg hc]
    exact e_vret dX5_weigh_85 rfl rfl rfl
  · have hc : S.2.2.2.2 < P := Decidable.not_not.mp (fun e => c66 ((cmp_le _ _).mpr e))
    rw [if_pos hc]
    refine e_aload_n dX5_weigh_69 rfl (pn 70 rfl ?_)
    refine e_lload_n dX5_weigh_70 rfl (pn 71 rfl ?_)
    refine e_put dX5_weigh_71 fp_X5_46 k26 rfl (Nat.le_of_ble_eq_true rfl) (pn 74 rfl ?_)
    refine pw (w1 := wT w size q n (S.1, S.2.1, S.2.2.1, S.2.2.2.1 + 1, P)) (wT26 w size q n _ _ _) ?_
    obtain ⟨z, z26, z36, z37, z38⟩ := h.up q n (S.1, S.2.1, S.2.2.1, S.2.2.2.1 + 1, P)
    refine e_aload_n dX5_weigh_74 rfl (pn 75 rfl ?_)
    refine e_get dX5_weigh_75 fl_X5_26 z26 rfl (pn 78 rfl ?_)
    refine e_aload_n dX5_weigh_78 rfl (pn 79 rfl ?_)
    refine e_get dX5_weigh_79 fl_X5_22 z26 rfl (pn 82 rfl ?_)
    refine c_V0 dX5_weigh_82 ml_X5_33 mv_X4_become (by decide) (r_become z38 z37) z38 rfl rfl (Nat.le_of_ble_eq_true rfl) (pn 85 rfl ?_)
    exact e_vret dX5_weigh_85 rfl rfl (wT38 w size q n _ _)
def lpF (g : Nat → TS → TS) : Nat → Nat → TS → TS
  | 0, _, S => S
  | c + 1, l, S => lpF g c (l + 1) (g l S)
def exF (wg : TS → TS) (af : Nat → Nat → (Nat → Int32) → Bool × (Nat → Int32)) (q : Nat) : Nat → Nat → TS → TS
  | 0, _, S => wg S
  | k + 1, d, S => lpF (fun l S => if (af d l S.1).1 then exF wg af q k (d + 1) ((af d l S.1).2, S.2.1.set d l, S.2.2) else ((af d l S.1).2, S.2)) q 0 S
def okS (n : Nat) (S : TS) : Prop := okW S.2.1 ∧ S.2.1.length = n ∧ okW S.2.2.1
theorem t_ex {w : Wd} {size q n : Nat} {rf : Nat → Option Nat} {tr : Nat → List Nat} (h : tH w size rf tr) (hq : 2 ≤ q ∧ q ≤ 4) (hn : n ≤ 12) {wg : TS → TS} {af : Nat → Nat → (Nat → Int32) → Bool × (Nat → Int32)}
    (hwg : ∀ S, okS n S → CW mX5_weigh [.ref 26] (wT w size q n S) none (wT w size q n (wg S)) ∧ okS n (wg S))
    (haf : ∀ d l S, d < n → l < 4 → CW mX5_allFollow [.ref 26, .int (nI d), .int (nI l)] (wT w size q n S) (some (.int (bI (af d l S.1).1))) (wT w size q n ((af d l S.1).2, S.2))) :
    ∀ (k d : Nat) (S : TS), d + k = n → okS n S → CW (mX5_explore k) [.ref 26, .int (nI d)] (wT w size q n S) none (wT w size q n (exF wg af q k d S)) ∧ okS n (exF wg af q k d S) := by
  intro k
  induction k with
  | zero =>
    intro d S hd hS
    obtain ⟨g, g26, g36, g37, g38⟩ := h.up q n S
    refine ⟨?_, (hwg S hS).2⟩
    refine cw_of (M := mX5_explore 0) fx_X5_explore (lv := [.ref 26, .int (nI d), dmy]) rfl (Nat.le_of_ble_eq_true rfl) ?_
    refine e_iload_n dX5_explore_0 rfl (pn 1 rfl ?_)
    refine e_aload_n dX5_explore_1 rfl (pn 2 rfl ?_)
    refine e_get dX5_explore_2 fl_X5_40 g26 rfl (pn 5 rfl ?_)
    refine e_icmp_lt 13 dX5_explore_5 (by decide) (fun c5 => ?_) (fun c5 => pn 8 rfl ?_)
    · exact absurd c5 (nI_nlt (by omega) (by omega))
    · refine e_aload_n dX5_explore_8 rfl (pn 9 rfl ?_)
      refine c_V0 dX5_explore_9 ml_X5_63 mv_X5_weigh (Nat.le_trans (Nat.le_of_ble_eq_true rfl : _ ≤ 4) (Nat.le_add_right 4 _)) (hwg S hS).1 g26 rfl rfl (Nat.le_of_ble_eq_true rfl) (pn 12 rfl ?_)
      exact e_vret dX5_explore_12 rfl rfl rfl
  | succ k ih =>
    intro d S hd hS
    have step : ∀ (l : Nat) (S : TS), okS n S → l < 4 → okS n (if (af d l S.1).1 then exF wg af q k (d + 1) ((af d l S.1).2, S.2.1.set d l, S.2.2) else ((af d l S.1).2, S.2)) := by
      intro l S hS hl
      split
      · exact (ih (d + 1) ((af d l S.1).2, S.2.1.set d l, S.2.2) (by omega) ⟨okW_set hS.1 d hl, by rw [List.length_set]; exact hS.2.1, hS.2.2⟩).2
      · exact hS
    have loop : ∀ (c l : Nat) (S : TS), l + c = q → okS n S → EW (mX5_explore (k + 1)) none 15 [.ref 26, .int (nI d), .int (nI l)] [] (wT w size q n S) none (wT w size q n (lpF (fun l S => if (af d l S.1).1 then exF wg af q k (d + 1) ((af d l S.1).2, S.2.1.set d l, S.2.2) else ((af d l S.1).2, S.2)) c l S)) ∧ okS n (lpF (fun l S => if (af d l S.1).1 then exF wg af q k (d + 1) ((af d l S.1).2, S.2.1.set d l, S.2.2) else ((af d l S.1).2, S.2)) c l S) := by
      intro c
      induction c with
      | zero =>
        intro l S hl hS
        obtain ⟨g, g26, g36, g37, g38⟩ := h.up q n S
        refine ⟨?_, hS⟩
        refine e_iload_n dX5_explore_15 rfl (pn 16 rfl ?_)
        refine e_aload_n dX5_explore_16 rfl (pn 17 rfl ?_)
        refine e_get dX5_explore_17 fl_X5_37 g26 rfl (pn 20 rfl ?_)
        refine e_icmp_ge 54 dX5_explore_20 (by decide) (fun c20 => ?_) (fun c20 => pn 23 rfl ?_)
        · exact e_vret dX5_explore_54 rfl rfl rfl
        · exact absurd (nI_le (by omega) (by omega)) c20
      | succ c ihc =>
        intro l S hl hS
        obtain ⟨g, g26, g36, g37, g38⟩ := h.up q n S
        obtain ⟨K1, K2⟩ := ihc (l + 1) _ (by omega) (step l S hS (by omega))
        refine ⟨?_, K2⟩
        rw [lpF]
        have AF := haf d l S (by omega) (by omega)
        generalize hX : af d l S.1 = X at *
        refine e_iload_n dX5_explore_15 rfl (pn 16 rfl ?_)
        refine e_aload_n dX5_explore_16 rfl (pn 17 rfl ?_)
        refine e_get dX5_explore_17 fl_X5_37 g26 rfl (pn 20 rfl ?_)
        refine e_icmp_ge 54 dX5_explore_20 (by decide) (fun c20 => ?_) (fun c20 => pn 23 rfl ?_)
        · exact absurd c20 (nI_ge (by omega) (by omega))
        · refine e_aload_n dX5_explore_23 rfl (pn 24 rfl ?_)
          refine e_iload_n dX5_explore_24 rfl (pn 25 rfl ?_)
          refine e_iload_n dX5_explore_25 rfl (pn 26 rfl ?_)
          refine c_V1 dX5_explore_26 ml_X5_66 mv_X5_allFollow (Nat.le_trans (Nat.le_of_ble_eq_true rfl : _ ≤ 4) (Nat.le_add_right 4 _)) AF g26 rfl rfl (Nat.le_of_ble_eq_true rfl) (pn 29 rfl ?_)
          obtain ⟨z, z26, z36, z37, z38⟩ := h.up q n (X.2, S.2)
          by_cases ht : X.1 = true
          · rw [if_pos ht] at K1 ⊢
            rw [ht]
            obtain ⟨E1, E2⟩ := ih (d + 1) (X.2, S.2.1.set d l, S.2.2) (by omega) ⟨okW_set hS.1 d (by omega), by rw [List.length_set]; exact hS.2.1, hS.2.2⟩
            obtain ⟨y, y26, y36, y37, y38⟩ := h.up q n (X.2, S.2.1.set d l, S.2.2)
            refine e_if_eq 48 dX5_explore_29 (by decide) (fun c29 => ?_) (fun c29 => pn 32 rfl ?_)
            · exact absurd c29 (by decide)
            · refine e_aload_n dX5_explore_32 rfl (pn 33 rfl ?_)
              refine e_get dX5_explore_33 fl_X5_22 z26 rfl (pn 36 rfl ?_)
              refine e_iload_n dX5_explore_36 rfl (pn 37 rfl ?_)
              refine e_iload_n dX5_explore_37 rfl (pn 38 rfl ?_)
              refine c_V0 dX5_explore_38 ml_X5_70 mv_X4_turn (Nat.le_trans (Nat.le_of_ble_eq_true rfl : _ ≤ 4) (Nat.le_add_right 4 _)) (w_turn hS.1 z37 (show d < S.2.1.length by have := hS.2.1; omega) (show l < 4 by omega)) z37 rfl rfl (Nat.le_of_ble_eq_true rfl) (pn 41 rfl ?_)
              rw [wT37]
              refine e_aload_n dX5_explore_41 rfl (pn 42 rfl ?_)
              refine e_iload_n dX5_explore_42 rfl (pn 43 rfl ?_)
              refine e_ic (1) dX5_explore_43 (by decide) (pn 44 rfl ?_)
              refine e_iadd dX5_explore_44 (pn 45 rfl ?_)
              rw [nI_1]
              refine c_V0 dX5_explore_45 ml_X5_59 (mv_X5_explore _) (by show 4 + k + 1 ≤ 4 + (k + 1); omega) E1 y26 rfl rfl (Nat.le_of_ble_eq_true rfl) (pn 48 rfl ?_)
              refine s_inc [_, _, _] (1) dX5_explore_48 (by decide) rfl (Nat.le_of_ble_eq_true rfl) rfl (pn 51 rfl ?_)
              refine e_goto 15 dX5_explore_51 (by decide) ?_
              rw [nI_1]
              exact K1
          · have ht3 : X.1 = false := by simpa using ht
            rw [if_neg ht] at K1 ⊢
            rw [ht3]
            refine e_if_eq 48 dX5_explore_29 (by decide) (fun c29 => ?_) (fun c29 => pn 32 rfl ?_)
            · refine s_inc [_, _, _] (1) dX5_explore_48 (by decide) rfl (Nat.le_of_ble_eq_true rfl) rfl (pn 51 rfl ?_)
              refine e_goto 15 dX5_explore_51 (by decide) ?_
              rw [nI_1]
              exact K1
            · exact absurd rfl c29
    obtain ⟨g, g26, g36, g37, g38⟩ := h.up q n S
    obtain ⟨L1, L2⟩ := loop q 0 S (by omega) hS
    refine ⟨?_, L2⟩
    refine cw_of (M := mX5_explore (k + 1)) fx_X5_explore (lv := [.ref 26, .int (nI d), dmy]) rfl (Nat.le_of_ble_eq_true rfl) ?_
    refine e_iload_n dX5_explore_0 rfl (pn 1 rfl ?_)
    refine e_aload_n dX5_explore_1 rfl (pn 2 rfl ?_)
    refine e_get dX5_explore_2 fl_X5_40 g26 rfl (pn 5 rfl ?_)
    refine e_icmp_lt 13 dX5_explore_5 (by decide) (fun c5 => ?_) (fun c5 => pn 8 rfl ?_)
    · refine e_ic (0) dX5_explore_13 (by decide) (pn 14 rfl ?_)
      refine s_in [_, _, _] dX5_explore_14 (Nat.le_of_ble_eq_true rfl) rfl (pn 15 rfl ?_)
      exact L1
    · exact absurd (nI_lt (by omega) (by omega)) c5
def seE (tr : Nat → List Nat) (n : Nat) : Nat → Nat → (Nat → Int32) → Bool × (Nat → Int32)
  | 0, _, e => (true, e)
  | c + 1, j, e => if (tr j).length ≤ n then seE tr n c (j + 1) (va_up e ((0 * 8 + j) * 13 + 0) 1) else (false, e)
theorem seE_t (tr : Nat → List Nat) (n : Nat) : ∀ (c j : Nat) (e : Nat → Int32), (seE tr n c j e).1 = true ↔ ∀ i, j ≤ i → i < j + c → (tr i).length ≤ n
  | 0, j, e => ⟨fun _ i h1 h2 => by omega, fun _ => rfl⟩
  | c + 1, j, e => by
    rw [seE]
    by_cases h : (tr j).length ≤ n
    · rw [if_pos h, seE_t tr n c (j + 1)]
      refine ⟨fun H i h1 h2 => ?_, fun H i h1 h2 => H i (by omega) (by omega)⟩
      by_cases hi : i = j
      · rw [hi]; exact h
      · exact H i (by omega) (by omega)
    · rw [if_neg h]
      exact ⟨fun H => (by cases H), fun H => absurd (H j (Nat.le_refl _) (by omega)) h⟩
theorem enc_rep (n : Nat) : enc (List.replicate n 0) = 0 := by
  induction n with
  | zero => rfl
  | succ n ih => rw [List.replicate_succ, enc, ih]
theorem okW_rep {n : Nat} (h : n ≤ 24) : okW (List.replicate n 0) := ⟨by rw [List.length_replicate]; exact h, fun a ha => by rw [(List.mem_replicate.mp ha).2]; decide⟩
def srV (wg : TS → TS) (af : Nat → Nat → (Nat → Int32) → Bool × (Nat → Int32)) (tr : Nat → List Nat) (size q n : Nat) (S : TS) : TS :=
  if (seE tr n size 0 S.1).1 then exF wg af q n 0 ((seE tr n size 0 S.1).2, List.replicate n 0, S.2.2.1, 0, 0) else ((seE tr n size 0 S.1).2, List.replicate n 0, S.2.2.1, 0, 0)
theorem t_search {w : Wd} {size q0 n0 q n : Nat} {rf : Nat → Option Nat} {tr : Nat → List Nat} (h : tH w size rf tr) (hq : 2 ≤ q ∧ q ≤ 4) (hn1 : 1 ≤ n) (hn : n ≤ 12) {wg : TS → TS} {af : Nat → Nat → (Nat → Int32) → Bool × (Nat → Int32)} {S : TS} (hS : okW S.2.2.1) (h37 : okW S.2.1)
    (hwg : (∀ j, j < size → (tr j).length ≤ n) → ∀ S, okS n S → CW mX5_weigh [.ref 26] (wT w size q n S) none (wT w size q n (wg S)) ∧ okS n (wg S))
    (haf : (∀ j, j < size → (tr j).length ≤ n) → ∀ d l S, d < n → l < 4 → CW mX5_allFollow [.ref 26, .int (nI d), .int (nI l)] (wT w size q n S) (some (.int (bI (af d l S.1).1))) (wT w size q n ((af d l S.1).2, S.2))) :
    CW mX5_search [.ref 26, .int (nI q), .int (nI n)] (wT w size q0 n0 S) (some (.int (if (seE tr n size 0 S.1).1 then (srV wg af tr size q n S).2.2.2.1 else 0))) (wT w size q n (srV wg af tr size q n S)) ∧ okS n (srV wg af tr size q n S) := by
  have hsz := h.2.2.2.1
  have okT : okW (List.replicate n 0) := okW_rep (by omega)
  have w26 : ∀ (S : TS) (q1 n1 q2 n2 : Nat) (f : Int32) (bp : Int64), (wT w size q1 n1 S).set 26 (tcF size q2 n2 f bp) = wT w size q2 n2 (S.1, S.2.1, S.2.2.1, f, bp) := fun S q1 n1 q2 n2 f bp => by
    show ((((w.set 36 _).set 37 _).set 38 _).set 26 _).set 26 _ = _
    rw [List.set_set]
  have loop : ∀ {rr : Option Value} {w' : Wd} (S : TS), (∀ e, (seE tr n size 0 S.1).1 = true → (seE tr n size 0 S.1).2 = e → EW mX5_search none 72 [.ref 26, .int (nI q), .int (nI n), dmy] [] (wT w size q n (e, S.2)) rr w') → ((seE tr n size 0 S.1).1 = false → rr = some (.int 0) ∧ w' = wT w size q n ((seE tr n size 0 S.1).2, S.2)) → ∀ (c j : Nat) (e : Nat → Int32), j + c = size → seE tr n c j e = seE tr n size 0 S.1 → EW mX5_search none 31 [.ref 26, .int (nI q), .int (nI n), .int (nI j)] [] (wT w size q n (e, S.2)) rr w' := by
    intro rr w' S K1 K2 c
    induction c with
    | zero =>
      intro j e hj he
      obtain ⟨g, g26, g36, g37, g38⟩ := h.up q n (e, S.2)
      have he2 : seE tr n size 0 S.1 = (true, e) := he.symm
      refine e_iload_n dX5_search_31 rfl (pn 32 rfl ?_)
      refine e_aload_n dX5_search_32 rfl (pn 33 rfl ?_)
      refine e_get dX5_search_33 fl_X5_29 g26 rfl (pn 36 rfl ?_)
      refine e_icmp_ge 72 dX5_search_36 (by decide) (fun c36 => ?_) (fun c36 => pn 39 rfl ?_)
      · exact e_dr [_, _, _, _] 3 rfl (K1 e (by rw [he2]) (by rw [he2]))
      · exact absurd (nI_le (by omega) (by omega)) c36
    | succ c ih =>
      intro j e hj he
      obtain ⟨g, g26, g36, g37, g38⟩ := h.up q n (e, S.2)
      obtain ⟨gr, okr⟩ := g.2.2.1 j (by omega)
      have okr1 := okr.1
      rw [seE] at he
      refine e_iload_n dX5_search_31 rfl (pn 32 rfl ?_)
      refine e_aload_n dX5_search_32 rfl (pn 33 rfl ?_)
      refine e_get dX5_search_33 fl_X5_29 g26 rfl (pn 36 rfl ?_)
      refine e_icmp_ge 72 dX5_search_36 (by decide) (fun c36 => ?_) (fun c36 => pn 39 rfl ?_)
      · exact absurd c36 (nI_ge (by omega) (by omega))
      · refine e_aload_n dX5_search_39 rfl (pn 40 rfl ?_)
        refine e_get dX5_search_40 fl_X5_11 g26 rfl (pn 43 rfl ?_)
        refine e_iload_n dX5_search_43 rfl (pn 44 rfl ?_)
        refine e_aald (j) dX5_search_44 g.1 rfl (by omega) (by omega) (h.2.1 j (by omega)) (pn 45 rfl ?_)
        refine e_get dX5_search_45 fl_X5_54 gr rfl (pn 48 rfl ?_)
        refine e_iload_n dX5_search_48 rfl (pn 49 rfl ?_)
        refine e_icmp_le 54 dX5_search_49 (by decide) (fun c49 => ?_) (fun c49 => pn 52 rfl ?_)
        · have hc : (tr j).length ≤ n := Nat.le_of_not_lt (fun e9 => nI_ge e9 (by omega) c49)
          rw [if_pos hc] at he
          refine e_aload_n dX5_search_54 rfl (pn 55 rfl ?_)
          refine e_get dX5_search_55 fl_X5_18 g26 rfl (pn 58 rfl ?_)
          refine e_ic (0) dX5_search_58 (by decide) (pn 59 rfl ?_)
          refine e_iload_n dX5_search_59 rfl (pn 60 rfl ?_)
          refine e_ic (0) dX5_search_60 (by decide) (pn 61 rfl ?_)
          refine c_S1 dX5_search_61 ml_X5_55 ms_X5_cell (by decide) (t_cell _ _ _ _) rfl rfl (Nat.le_of_ble_eq_true rfl) (pn 64 rfl ?_)
          refine e_ic (1) dX5_search_64 (by decide) (pn 65 rfl ?_)
          refine e_iast ((0 * 8 + j) * 13 + 0) dX5_search_65 g36 (tx 0 j 0) (by omega) (by omega) (pn 66 rfl ?_)
          rw [wT36]
          refine s_inc [_, _, _, _] (1) dX5_search_66 (by decide) rfl (Nat.le_of_ble_eq_true rfl) rfl (pn 69 rfl ?_)
          refine e_goto 31 dX5_search_69 (by decide) ?_
          rw [nI_1]
          exact ih (j + 1) _ (by omega) he
        · have hc : ¬ (tr j).length ≤ n := fun e9 => c49 (nI_le e9 (by omega))
          rw [if_neg hc] at he
          have he2 : seE tr n size 0 S.1 = (false, e) := he.symm
          obtain ⟨r1, r2⟩ := K2 (by rw [he2])
          rw [he2] at r2
          refine e_ic (0) dX5_search_52 (by decide) (pn 53 rfl ?_)
          exact e_iret dX5_search_53 rfl r1 r2.symm
  obtain ⟨g, g26, g36, g37, g38⟩ := h.up q0 n0 S
  have okS0 : ∀ e : Nat → Int32, okS n (e, List.replicate n 0, S.2.2.1, 0, 0) := fun e => ⟨okT, List.length_replicate, hS⟩
  have hT : (seE tr n size 0 S.1).1 = true → ∀ j, j < size → (tr j).length ≤ n := fun e j hj => (seE_t tr n size 0 S.1).mp e j (Nat.zero_le _) (by omega)
  refine ⟨?_, ?_⟩
  · refine cw_of (M := mX5_search) fx_X5_search (lv := [.ref 26, .int (nI q), .int (nI n), dmy]) rfl (Nat.le_of_ble_eq_true rfl) ?_
    refine e_aload_n dX5_search_0 rfl (pn 1 rfl ?_)
    refine e_iload_n dX5_search_1 rfl (pn 2 rfl ?_)
    refine e_put dX5_search_2 fp_X5_37 g26 rfl (Nat.le_of_ble_eq_true rfl) (pn 5 rfl ?_)
    refine e_aload_n dX5_search_5 rfl (pn 6 rfl ?_)
    refine e_iload_n dX5_search_6 rfl (pn 7 rfl ?_)
    refine e_put dX5_search_7 fp_X5_40 (gse g26) rfl (Nat.le_of_ble_eq_true rfl) (pn 10 rfl ?_)
    refine e_aload_n dX5_search_10 rfl (pn 11 rfl ?_)
    refine e_ic (0) dX5_search_11 (by decide) (pn 12 rfl ?_)
    refine e_put dX5_search_12 fp_X5_43 (gse (gse g26)) rfl (Nat.le_of_ble_eq_true rfl) (pn 15 rfl ?_)
    refine e_aload_n dX5_search_15 rfl (pn 16 rfl ?_)
    refine e_lc (0) dX5_search_16 (by decide) (pn 17 rfl ?_)
    refine e_put dX5_search_17 fp_X5_46 (gse (gse (gse g26))) rfl (Nat.le_of_ble_eq_true rfl) (pn 20 rfl ?_)
    refine pw (w1 := wT w size q n (S.1, S.2.1, S.2.2.1, 0, 0)) (by simp only [List.set_set]; rfl) ?_
    obtain ⟨z, z26, z36, z37, z38⟩ := h.up q n (S.1, S.2.1, S.2.2.1, 0, 0)
    refine e_aload_n dX5_search_20 rfl (pn 21 rfl ?_)
    refine e_get dX5_search_21 fl_X5_22 z26 rfl (pn 24 rfl ?_)
    refine e_iload_n dX5_search_24 rfl (pn 25 rfl ?_)
    refine e_lc (0) dX5_search_25 (by decide) (pn 26 rfl ?_)
    refine c_V0 dX5_search_26 ml_X5_50 mv_X4_put (by decide) (r_put (nI n) 0 z37) z37 rfl rfl (Nat.le_of_ble_eq_true rfl) (pn 29 rfl ?_)
    refine pw (w1 := wT w size q n (S.1, List.replicate n 0, S.2.2.1, 0, 0)) (by
      rw [← wT37 w size q n (S.1, S.2.1, S.2.2.1, 0, 0) (List.replicate n 0), rowW, enc_rep, List.length_replicate]; rfl) ?_
    refine e_ic (0) dX5_search_29 (by decide) (pn 30 rfl ?_)
    refine s_in [_, _, _, _] dX5_search_30 (Nat.le_of_ble_eq_true rfl) rfl (pn 31 rfl ?_)
    refine loop (S.1, List.replicate n 0, S.2.2.1, 0, 0) ?_ ?_ size 0 S.1 (by omega) rfl
    · intro e he1 he2
      have he1 : (seE tr n size 0 S.1).1 = true := he1
      have he2 : (seE tr n size 0 S.1).2 = e := he2
      obtain ⟨E1, E2⟩ := t_ex h hq hn (hwg (hT he1)) (haf (hT he1)) n 0 (e, List.replicate n 0, S.2.2.1, 0, 0) (by omega) (okS0 e)
      rw [srV, if_pos he1, if_pos he1, he2]
      obtain ⟨y, y26, y36, y37, y38⟩ := h.up q n (e, List.replicate n 0, S.2.2.1, 0, 0)
      obtain ⟨x, x26, x36, x37, x38⟩ := h.up q n (exF wg af q n 0 (e, List.replicate n 0, S.2.2.1, 0, 0))
      refine e_aload_n dX5_search_72 rfl (pn 73 rfl ?_)
      refine e_ic (0) dX5_search_73 (by decide) (pn 74 rfl ?_)
      refine c_V0 dX5_search_74 ml_X5_59 (mv_X5_explore _) (by show 4 + n + 1 ≤ 18; omega) E1 y26 rfl rfl (Nat.le_of_ble_eq_true rfl) (pn 77 rfl ?_)
      refine e_aload_n dX5_search_77 rfl (pn 78 rfl ?_)
      refine e_get dX5_search_78 fl_X5_43 x26 rfl (pn 81 rfl ?_)
      exact e_iret dX5_search_81 rfl rfl rfl
    · intro he1
      have he1 : (seE tr n size 0 S.1).1 = false := he1
      rw [srV, he1]
      exact ⟨rfl, rfl⟩
  · unfold srV
    split
    · rename_i ht
      exact (t_ex h hq hn (hwg (hT ht)) (haf (hT ht)) n 0 _ (by omega) (okS0 _)).2
    · exact okS0 _
theorem t_keep {w : Wd} {size q n x : Nat} {found : Int32} {bp : Int64} {rf : Nat → Option Nat} (h26 : w[26]? = some (tcF size q n found bp)) (h27 : w[27]? = some (aR 8 rf)) (hrf : ∀ k, k < 8 → rf k = some (28 + k)) (hs : size < 8) {v u : List Nat} (hv : w[28 + size]? = some (rowW v)) (hx : w[x]? = some (rowW u)) : CW mX5_keep [.ref 26, .ref x] w none ((w.set (28 + size) (rowW u)).set 26 (tcF (size + 1) q n found bp)) := by
  have g26 : (w.set (28 + size) (rowW u))[26]? = some (tcF size q n found bp) := gne (by omega) h26
  refine cw_of (M := mX5_keep) fx_X5_keep (lv := [.ref 26, .ref x]) rfl (Nat.le_of_ble_eq_true rfl) ?_
  refine e_aload_n dX5_keep_0 rfl (pn 1 rfl ?_)
  refine e_get dX5_keep_1 fl_X5_11 h26 rfl (pn 4 rfl ?_)
  refine e_aload_n dX5_keep_4 rfl (pn 5 rfl ?_)
  refine e_get dX5_keep_5 fl_X5_29 h26 rfl (pn 8 rfl ?_)
  refine e_aald (size) dX5_keep_8 h27 rfl (by omega) (by omega) (hrf size hs) (pn 9 rfl ?_)
  refine e_aload_n dX5_keep_9 rfl (pn 10 rfl ?_)
  refine c_V0 dX5_keep_10 ml_X5_33 mv_X4_become (by decide) (r_become hv hx) hv rfl rfl (Nat.le_of_ble_eq_true rfl) (pn 13 rfl ?_)
  refine e_aload_n dX5_keep_13 rfl (pn 14 rfl ?_)
  refine e_dup dX5_keep_14 rfl (pn 15 rfl ?_)
  refine e_get dX5_keep_15 fl_X5_29 g26 rfl (pn 18 rfl ?_)
  refine e_ic (1) dX5_keep_18 (by decide) (pn 19 rfl ?_)
  refine e_iadd dX5_keep_19 (pn 20 rfl ?_)
  refine e_put dX5_keep_20 fp_X5_29 g26 rfl (Nat.le_of_ble_eq_true rfl) (pn 23 rfl ?_)
  exact e_vret dX5_keep_23 rfl rfl (by rw [nI_1]; rfl)
theorem t_forget {w : Wd} {size q n : Nat} {found : Int32} {bp : Int64} (h26 : w[26]? = some (tcF size q n found bp)) : CW mX5_forget [.ref 26] w none (w.set 26 (tcF 0 q n found bp)) := by
  refine cw_of (M := mX5_forget) fx_X5_forget (lv := [.ref 26]) rfl (Nat.le_of_ble_eq_true rfl) ?_
  refine e_aload_n dX5_forget_0 rfl (pn 1 rfl ?_)
  refine e_ic (0) dX5_forget_1 (by decide) (pn 2 rfl ?_)
  refine e_put dX5_forget_2 fp_X5_29 h26 rfl (Nat.le_of_ble_eq_true rfl) (pn 5 rfl ?_)
  exact e_vret dX5_forget_5 rfl rfl rfl
