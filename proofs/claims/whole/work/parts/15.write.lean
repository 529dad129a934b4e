/-! Code.write -/
theorem cH.row {w : Wd} {wr len q n m a b lm : Nat} {f : Nat → Int32} {sz : Int32} (h : cH w wr len f q n m a b lm sz) {x : Nat} {u : List Nat} (hx : w[x]? = some (rowW u)) (y : Cel) : cH (w.set x y) wr len f q n m a b lm sz := by
  have e1 : x ≠ 15 := fun e => by
    have h1 := h.1
    rw [← e, hx] at h1
    cases h1
  have e2 : x ≠ wr := fun e => by
    have h1 := h.2.1
    rw [← e, hx] at h1
    cases h1
  exact ⟨gne e1 h.1, gne e2 h.2.1, h.2.2⟩
def wiL (f : Nat → Int32) (q n m a b lm p last s c : Nat) : Nat → Nat → Int32 → Nat × Int32
  | 0, l, left => (l, left)
  | k + 1, l, left => if weV f q n m a b lm p l (swN q m s p last l) ((c + l) % lm) ≤ left then wiL f q n m a b lm p last s c k (l + 1) (left - weV f q n m a b lm p l (swN q m s p last l) ((c + l) % lm)) else (l, left)
theorem wiL_le (f : Nat → Int32) (q n m a b lm p last s c : Nat) : ∀ (k l : Nat) (left : Int32), (wiL f q n m a b lm p last s c k l left).1 ≤ l + k
  | 0, l, left => Nat.le_refl _
  | k + 1, l, left => by
    rw [wiL]
    split
    · have := wiL_le f q n m a b lm p last s c k (l + 1) (left - weV f q n m a b lm p l (swN q m s p last l) ((c + l) % lm))
      omega
    · show l ≤ _; omega
def wrO (f : Nat → Int32) (q n m a b lm : Nat) : Nat → Nat → Int32 → Nat → Nat → Nat → List Nat → List Nat
  | 0, _, _, _, _, _, acc => acc
  | k + 1, p, left, last, s, c, acc => wrO f q n m a b lm k (p + 1) (wiL f q n m a b lm p last s c (q - 1) 0 left).2 (wiL f q n m a b lm p last s c (q - 1) 0 left).1 (swN q m s p last (wiL f q n m a b lm p last s c (q - 1) 0 left).1) ((c + (wiL f q n m a b lm p last s c (q - 1) 0 left).1) % lm) (acc ++ [(wiL f q n m a b lm p last s c (q - 1) 0 left).1])
theorem d_wi {w : Wd} {wr len q n m a b lm : Nat} {f : Nat → Int32} {sz : Int32} (h : cH w wr len f q n m a b lm sz) {x : Nat} {i0 : Int32} {p last s c : Nat} (hp : 1 ≤ p) (hp2 : p ≤ 16) (hla : last < 4) (hs : s < m) (hc : c < lm) {r : Option Value} {w' : Wd} : ∀ (k l : Nat) (left : Int32), l + k = q - 1 → EW mX0_write none 114 [.ref 15, .int i0, .ref x, .int (wiL f q n m a b lm p last s c k l left).2, .int (nI last), .int (nI s), .int (nI c), .int (nI p), .int (nI (wiL f q n m a b lm p last s c k l left).1), dmy] [] w r w' → EW mX0_write none 54 [.ref 15, .int i0, .ref x, .int left, .int (nI last), .int (nI s), .int (nI c), .int (nI p), .int (nI l), .int (weV f q n m a b lm p l (swN q m s p last l) ((c + l) % lm))] [] w r w' := by
  obtain ⟨hq, hn, hm, ha, hb, hlm⟩ := h.2.2.2.2
  have hq1 : nI q - 1 = nI (q - 1) := pk_sub (b := 1) (by omega)
  intro k
  induction k with
  | zero =>
    intro l left hl K
    refine e_iload dX0_write_54 rfl (pn 56 rfl ?_)
    refine e_aload_n dX0_write_56 rfl (pn 57 rfl ?_)
    refine e_get dX0_write_57 fl_X0_25 h.1 rfl (pn 60 rfl ?_)
    refine e_ic (1) dX0_write_60 (by decide) (pn 61 rfl ?_)
    refine e_isub dX0_write_61 (pn 62 rfl ?_)
    rw [hq1]
    refine e_icmp_ge 114 dX0_write_62 (by decide) (fun c62 => ?_) (fun c62 => pn 65 rfl ?_)
    · exact e_dr [_, _, _, _, _, _, _, _, _, _] 9 rfl K
    · exact absurd (nI_le (by omega) (by omega)) c62
  | succ k ih =>
    intro l left hl K
    rw [wiL] at K
    refine e_iload dX0_write_54 rfl (pn 56 rfl ?_)
    refine e_aload_n dX0_write_56 rfl (pn 57 rfl ?_)
    refine e_get dX0_write_57 fl_X0_25 h.1 rfl (pn 60 rfl ?_)
    refine e_ic (1) dX0_write_60 (by decide) (pn 61 rfl ?_)
    refine e_isub dX0_write_61 (pn 62 rfl ?_)
    rw [hq1]
    refine e_icmp_ge 114 dX0_write_62 (by decide) (fun c62 => ?_) (fun c62 => pn 65 rfl ?_)
    · exact absurd c62 (nI_ge (by omega) (by omega))
    · refine e_iload_n dX0_write_65 rfl (pn 66 rfl ?_)
      refine e_iload dX0_write_66 rfl (pn 68 rfl ?_)
      refine e_icmp_lt 114 dX0_write_68 (by decide) (fun c68 => ?_) (fun c68 => pn 71 rfl ?_)
      · have hle : ¬ weV f q n m a b lm p l (swN q m s p last l) ((c + l) % lm) ≤ left := fun e => by
          rw [fa_lt] at c68
          rw [fa_le] at e
          omega
        rw [if_neg hle] at K
        exact e_dr [_, _, _, _, _, _, _, _, _, _] 9 rfl K
      · have hle : weV f q n m a b lm p l (swN q m s p last l) ((c + l) % lm) ≤ left := by
          rw [fa_lt] at c68
          rw [fa_le]
          omega
        rw [if_pos hle] at K
        refine e_iload_n dX0_write_71 rfl (pn 72 rfl ?_)
        refine e_iload dX0_write_72 rfl (pn 74 rfl ?_)
        refine e_isub dX0_write_74 (pn 75 rfl ?_)
        refine s_in [_, _, _, _, _, _, _, _, _, _] dX0_write_75 (Nat.le_of_ble_eq_true rfl) rfl (pn 76 rfl ?_)
        refine s_inc [_, _, _, _, _, _, _, _, _, _] (1) dX0_write_76 (by decide) rfl (Nat.le_of_ble_eq_true rfl) rfl (pn 79 rfl ?_)
        refine e_aload_n dX0_write_79 rfl (pn 80 rfl ?_)
        refine e_iload dX0_write_80 rfl (pn 82 rfl ?_)
        refine e_iload dX0_write_82 rfl (pn 84 rfl ?_)
        refine e_aload_n dX0_write_84 rfl (pn 85 rfl ?_)
        refine e_iload dX0_write_85 rfl (pn 87 rfl ?_)
        refine e_iload dX0_write_87 rfl (pn 89 rfl ?_)
        refine e_iload dX0_write_89 rfl (pn 91 rfl ?_)
        refine e_iload dX0_write_91 rfl (pn 93 rfl ?_)
        rw [nI_1]
        refine c_V1 dX0_write_93 ml_X0_73 mv_X0_sumWith (by decide) (d_sumWith h.1 hq.2 hm hs (p := p) (l := l + 1) (by omega) hp hla (by omega)) h.1 rfl rfl (Nat.le_of_ble_eq_true rfl) (pn 96 rfl ?_)
        refine e_iload dX0_write_96 rfl (pn 98 rfl ?_)
        refine e_iload dX0_write_98 rfl (pn 100 rfl ?_)
        refine e_iadd dX0_write_100 (pn 101 rfl ?_)
        refine e_aload_n dX0_write_101 rfl (pn 102 rfl ?_)
        refine e_get dX0_write_102 fl_X0_32 h.1 rfl (pn 105 rfl ?_)
        refine e_irem dX0_write_105 (nI_ne0 (by omega) (by omega)) (pn 106 rfl ?_)
        rw [nI_add, pk_rem (by omega) (by omega) (by omega)]
        refine c_V1 dX0_write_106 ml_X0_76 mv_X0_waysToEnd (by decide) (d_we h (p := p) (last := l + 1) hp hp2 (by omega) (swN_lt (by omega) hs) (Nat.mod_lt _ (by omega))) h.1 rfl rfl (Nat.le_of_ble_eq_true rfl) (pn 109 rfl ?_)
        refine s_i [_, _, _, _, _, _, _, _, _, _] dX0_write_109 (Nat.le_of_ble_eq_true rfl) rfl (pn 111 rfl ?_)
        refine e_goto 54 dX0_write_111 (by decide) ?_
        exact ih (l + 1) _ (by omega) K
theorem d_write {w : Wd} {wr len q n m a b lm : Nat} {f : Nat → Int32} {sz : Int32} (h : cH w wr len f q n m a b lm sz) {x : Nat} {u : List Nat} (hx : w[x]? = some (rowW u)) (i0 : Int32) : CW mX0_write [.ref 15, .int i0, .ref x] w none (w.set x (rowW (wrO f q n m a b lm n 1 i0 0 0 0 []))) := by
  obtain ⟨hq, hn, hm, ha, hb, hlm⟩ := h.2.2.2.2
  have loop : ∀ (k p : Nat) (left : Int32) (last s c : Nat) (acc : List Nat), p + k = n + 1 → 1 ≤ p → last < 4 → s < m → c < lm → okW acc → acc.length + k ≤ 16 → EW mX0_write none 18 [.ref 15, .int i0, .ref x, .int left, .int (nI last), .int (nI s), .int (nI c), .int (nI p), dmy, dmy] [] (w.set x (rowW acc)) none (w.set x (rowW (wrO f q n m a b lm k p left last s c acc))) := by
    intro k
    induction k with
    | zero =>
      intro p left last s c acc hp hp1 hla hs hc hok hl
      have g := h.row hx (rowW acc)
      refine e_iload dX0_write_18 rfl (pn 20 rfl ?_)
      refine e_aload_n dX0_write_20 rfl (pn 21 rfl ?_)
      refine e_get dX0_write_21 fl_X0_35 g.1 rfl (pn 24 rfl ?_)
      refine e_icmp_gt 156 dX0_write_24 (by decide) (fun c24 => ?_) (fun c24 => pn 27 rfl ?_)
      · exact e_vret dX0_write_156 rfl rfl rfl
      · exact absurd (nI_lt (by omega) (by omega)) c24
    | succ k ih =>
      intro p left last s c acc hp hp1 hla hs hc hok hl
      have g := h.row hx (rowW acc)
      have gx : (w.set x (rowW acc))[x]? = some (rowW acc) := gse hx
      have hle := wiL_le f q n m a b lm p last s c (q - 1) 0 left
      have e0 : (c + 0) % lm = c := by rw [Nat.add_zero]; exact Nat.mod_eq_of_lt hc
      refine e_iload dX0_write_18 rfl (pn 20 rfl ?_)
      refine e_aload_n dX0_write_20 rfl (pn 21 rfl ?_)
      refine e_get dX0_write_21 fl_X0_35 g.1 rfl (pn 24 rfl ?_)
      refine e_icmp_gt 156 dX0_write_24 (by decide) (fun c24 => ?_) (fun c24 => pn 27 rfl ?_)
      · exact absurd c24 (nI_nlt (by omega) (by omega))
      · refine e_ic (0) dX0_write_27 (by decide) (pn 28 rfl ?_)
        refine s_i [_, _, _, _, _, _, _, _, _, _] dX0_write_28 (Nat.le_of_ble_eq_true rfl) rfl (pn 30 rfl ?_)
        refine e_aload_n dX0_write_30 rfl (pn 31 rfl ?_)
        refine e_iload dX0_write_31 rfl (pn 33 rfl ?_)
        refine e_iload dX0_write_33 rfl (pn 35 rfl ?_)
        refine e_aload_n dX0_write_35 rfl (pn 36 rfl ?_)
        refine e_iload dX0_write_36 rfl (pn 38 rfl ?_)
        refine e_iload dX0_write_38 rfl (pn 40 rfl ?_)
        refine e_iload dX0_write_40 rfl (pn 42 rfl ?_)
        refine e_iload dX0_write_42 rfl (pn 44 rfl ?_)
        refine c_V1 dX0_write_44 ml_X0_73 mv_X0_sumWith (by decide) (d_sumWith g.1 hq.2 hm hs (p := p) (l := 0) (by omega) hp1 hla (by omega)) g.1 rfl rfl (Nat.le_of_ble_eq_true rfl) (pn 47 rfl ?_)
        refine e_iload dX0_write_47 rfl (pn 49 rfl ?_)
        have WE := d_we g (p := p) (last := 0) hp1 (by omega) (by omega) (swN_lt (q := q) (p := p) (last := last) (l := 0) (by omega) hs) (show c < lm from hc)
        rw [← e0] at WE
        rw [e0] at WE
        refine c_V1 dX0_write_49 ml_X0_76 mv_X0_waysToEnd (by decide) WE g.1 rfl rfl (Nat.le_of_ble_eq_true rfl) (pn 52 rfl ?_)
        refine s_i [_, _, _, _, _, _, _, _, _, _] dX0_write_52 (Nat.le_of_ble_eq_true rfl) rfl (pn 54 rfl ?_)
        have W0 := d_wi g (x := x) (i0 := i0) (p := p) (last := last) hp1 (by omega) hla hs hc (r := none) (w' := w.set x (rowW (wrO f q n m a b lm (k + 1) p left last s c acc))) (q - 1) 0 left (by omega)
        rw [e0] at W0
        refine W0 ?_
        rw [wrO]
        generalize hX : wiL f q n m a b lm p last s c (q - 1) 0 left = X at *
        refine e_aload_n dX0_write_114 rfl (pn 115 rfl ?_)
        refine e_iload dX0_write_115 rfl (pn 117 rfl ?_)
        refine c_V0 dX0_write_117 ml_X0_91 mv_X4_append (by decide) (w_append hok gx (l := X.1) (by omega)) gx rfl rfl (Nat.le_of_ble_eq_true rfl) (pn 120 rfl ?_)
        rw [List.set_set]
        have g2 := h.row hx (rowW (acc ++ [X.1]))
        refine e_aload_n dX0_write_120 rfl (pn 121 rfl ?_)
        refine e_iload dX0_write_121 rfl (pn 123 rfl ?_)
        refine e_iload dX0_write_123 rfl (pn 125 rfl ?_)
        refine e_iload dX0_write_125 rfl (pn 127 rfl ?_)
        refine e_iload dX0_write_127 rfl (pn 129 rfl ?_)
        refine c_V1 dX0_write_129 ml_X0_73 mv_X0_sumWith (by decide) (d_sumWith g2.1 hq.2 hm hs (p := p) (l := X.1) (by omega) hp1 hla (by omega)) g2.1 rfl rfl (Nat.le_of_ble_eq_true rfl) (pn 132 rfl ?_)
        refine s_i [_, _, _, _, _, _, _, _, _, _] dX0_write_132 (Nat.le_of_ble_eq_true rfl) rfl (pn 134 rfl ?_)
        refine e_iload dX0_write_134 rfl (pn 136 rfl ?_)
        refine e_iload dX0_write_136 rfl (pn 138 rfl ?_)
        refine e_iadd dX0_write_138 (pn 139 rfl ?_)
        refine e_aload_n dX0_write_139 rfl (pn 140 rfl ?_)
        refine e_get dX0_write_140 fl_X0_32 g2.1 rfl (pn 143 rfl ?_)
        rw [nI_add]
        refine e_irem dX0_write_143 (nI_ne0 (by omega) (by omega)) (pn 144 rfl ?_)
        rw [pk_rem (by omega) (by omega) (by omega)]
        refine s_i [_, _, _, _, _, _, _, _, _, _] dX0_write_144 (Nat.le_of_ble_eq_true rfl) rfl (pn 146 rfl ?_)
        refine e_iload dX0_write_146 rfl (pn 148 rfl ?_)
        refine s_i [_, _, _, _, _, _, _, _, _, _] dX0_write_148 (Nat.le_of_ble_eq_true rfl) rfl (pn 150 rfl ?_)
        refine s_inc [_, _, _, _, _, _, _, _, _, _] (1) dX0_write_150 (by decide) rfl (Nat.le_of_ble_eq_true rfl) rfl (pn 153 rfl ?_)
        refine e_goto 18 dX0_write_153 (by decide) ?_
        rw [nI_1]
        refine e_dr [_, _, _, _, _, _, _, _, _, _] 8 rfl ?_
        exact ih (p + 1) _ _ _ _ _ (by omega) (by omega) (by omega) (swN_lt (by omega) hs) (Nat.mod_lt _ (by omega)) (okW_snoc hok (by omega) (by omega)) (by simp; omega)
  refine cw_of (M := mX0_write) fx_X0_write (lv := [.ref 15, .int i0, .ref x, dmy, dmy, dmy, dmy, dmy, dmy, dmy]) rfl (Nat.le_of_ble_eq_true rfl) ?_
  refine e_iload_n dX0_write_0 rfl (pn 1 rfl ?_)
  refine s_in [_, _, _, _, _, _, _, _, _, _] dX0_write_1 (Nat.le_of_ble_eq_true rfl) rfl (pn 2 rfl ?_)
  refine e_ic (0) dX0_write_2 (by decide) (pn 3 rfl ?_)
  refine s_i [_, _, _, _, _, _, _, _, _, _] dX0_write_3 (Nat.le_of_ble_eq_true rfl) rfl (pn 5 rfl ?_)
  refine e_ic (0) dX0_write_5 (by decide) (pn 6 rfl ?_)
  refine s_i [_, _, _, _, _, _, _, _, _, _] dX0_write_6 (Nat.le_of_ble_eq_true rfl) rfl (pn 8 rfl ?_)
  refine e_ic (0) dX0_write_8 (by decide) (pn 9 rfl ?_)
  refine s_i [_, _, _, _, _, _, _, _, _, _] dX0_write_9 (Nat.le_of_ble_eq_true rfl) rfl (pn 11 rfl ?_)
  refine e_aload_n dX0_write_11 rfl (pn 12 rfl ?_)
  refine c_V0 dX0_write_12 ml_X0_88 mv_X4_clear (by decide) (w_clear hx) hx rfl rfl (Nat.le_of_ble_eq_true rfl) (pn 15 rfl ?_)
  refine e_ic (1) dX0_write_15 (by decide) (pn 16 rfl ?_)
  refine s_i [_, _, _, _, _, _, _, _, _, _] dX0_write_16 (Nat.le_of_ble_eq_true rfl) rfl (pn 18 rfl ?_)
  exact loop n 1 i0 0 0 0 [] (by omega) (by omega) (by omega) (by omega) (by omega) ⟨by simp, fun a ha => by cases ha⟩ (by simpa using hn.2)
