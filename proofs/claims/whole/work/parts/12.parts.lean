/-! LostLetters$Parts: this at 19, embedded at 20, left at 21 -/
def pP (w : Wd) (e g : Nat → Int64) : Prop := w[19]? = some (oB 3 [.ref 20, .ref 21]) ∧ w[20]? = some (aJ 25 e) ∧ w[21]? = some (aJ 175 g)
theorem pP.up {w : Wd} {e g : Nat → Int64} (h : pP w e g) (e2 : Nat → Int64) : pP (w.set 20 (aJ 25 e2)) e2 g := ⟨gne (by decide) h.1, gse h.2.1, gne (by decide) h.2.2⟩
theorem pP.upL {w : Wd} {e g : Nat → Int64} (h : pP w e g) (g2 : Nat → Int64) : pP (w.set 21 (aJ 175 g2)) e g2 := ⟨gne (by decide) h.1, gne (by decide) h.2.1, gse h.2.2⟩
theorem neJ {w : Wd} {i a n : Nat} {e : Nat → Int64} {u : List Nat} (h : w[i]? = some (aJ n e)) (ha : w[a]? = some (rowW u)) : i ≠ a := fun q => by subst q; rw [h] at ha; cases ha
theorem neI {w : Wd} {i a n : Nat} {e : Nat → Int32} {u : List Nat} (h : w[i]? = some (aI n e)) (ha : w[a]? = some (rowW u)) : i ≠ a := fun q => by subst q; rw [h] at ha; cases ha
def hoZ : Nat → Nat → (Nat → Int64) → Nat → Int64
  | 0, _, e => e
  | n + 1, k, e => hoZ n (k + 1) (va_up e k 0)
def hoI (s : List Nat) (l : Nat) : Nat → (Nat → Int64) → Nat → Int64
  | 0, e => e
  | k + 1, e => hoI s l k (if s.getD k 0 = l then va_up e (k + 1) (e (k + 1) + e k) else e)
def hoO (s t : List Nat) : Nat → Nat → (Nat → Int64) → Nat → Int64
  | 0, _, e => e
  | n + 1, i, e => hoO s t n (i + 1) (hoI s (t.getD i 0) s.length e)
def hoV (s t : List Nat) (e : Nat → Int64) : Nat → Int64 := hoO s t t.length 0 (hoZ s.length 1 (va_up e 0 1))
theorem o_Z {w : Wd} {e0 g : Nat → Int64} (h : pP w e0 g) {a b : Nat} {s : List Nat} (ha : w[a]? = some (rowW s)) (oks : okW s) {r : Option Value} {w' : Wd} : ∀ (n k : Nat) (e : Nat → Int64), k + n = s.length + 1 → EW mX3_howOften none 30 [.ref 19, .ref a, .ref b, dmy, dmy, dmy] [] (w.set 20 (aJ 25 (hoZ n k e))) r w' → EW mX3_howOften none 9 [.ref 19, .ref a, .ref b, .int (nI k), dmy, dmy] [] (w.set 20 (aJ 25 e)) r w' := by
  have b1 := oks.1
  have e1 := neJ h.2.1 ha
  intro n
  induction n with
  | zero =>
    intro k e hk K
    refine e_iload_n dX3_howOften_9 rfl (pn 10 rfl ?_)
    refine e_aload_n dX3_howOften_10 rfl (pn 11 rfl ?_)
    refine e_get dX3_howOften_11 fl_X3_18 (gne e1 ha) rfl (pn 14 rfl ?_)
    refine e_icmp_gt 30 dX3_howOften_14 (by decide) (fun c14 => ?_) (fun c14 => pn 17 rfl ?_)
    · exact e_dr [_, _, _, _, _, _] 3 rfl K
    · exact absurd (nI_lt (by omega) (by omega)) c14
  | succ n ih =>
    intro k e hk K
    refine e_iload_n dX3_howOften_9 rfl (pn 10 rfl ?_)
    refine e_aload_n dX3_howOften_10 rfl (pn 11 rfl ?_)
    refine e_get dX3_howOften_11 fl_X3_18 (gne e1 ha) rfl (pn 14 rfl ?_)
    refine e_icmp_gt 30 dX3_howOften_14 (by decide) (fun c14 => ?_) (fun c14 => pn 17 rfl ?_)
    · exact absurd c14 (nI_nlt (by omega) (by omega))
    · refine e_aload_n dX3_howOften_17 rfl (pn 18 rfl ?_)
      refine e_get dX3_howOften_18 fl_X3_9 (h.up e).1 rfl (pn 21 rfl ?_)
      refine e_iload_n dX3_howOften_21 rfl (pn 22 rfl ?_)
      refine e_lc (0) dX3_howOften_22 (by decide) (pn 23 rfl ?_)
      refine e_last (k) dX3_howOften_23 (h.up e).2.1 rfl (by omega) (by omega) (pn 24 rfl ?_)
      rw [List.set_set]
      refine s_inc [_, _, _, _, _, _] (1) dX3_howOften_24 (by decide) rfl (Nat.le_of_ble_eq_true rfl) rfl (pn 27 rfl ?_)
      refine e_goto 9 dX3_howOften_27 (by decide) ?_
      rw [nI_1]
      exact ih (k + 1) _ (by omega) K
theorem o_I {w : Wd} {e0 g : Nat → Int64} (h : pP w e0 g) {a b i l : Nat} {s : List Nat} (ha : w[a]? = some (rowW s)) (oks : okW s) (hl : l < 4) {r : Option Value} {w' : Wd} : ∀ (k : Nat) (e : Nat → Int64), k ≤ s.length → EW mX3_howOften none 97 [.ref 19, .ref a, .ref b, .int (nI i), dmy, dmy] [] (w.set 20 (aJ 25 (hoI s l k e))) r w' → EW mX3_howOften none 53 [.ref 19, .ref a, .ref b, .int (nI i), .int (nI l), .int (nI k)] [] (w.set 20 (aJ 25 e)) r w' := by
  have b1 := oks.1
  have e1 := neJ h.2.1 ha
  intro k
  induction k with
  | zero =>
    intro e hk K
    refine e_iload dX3_howOften_53 rfl (pn 55 rfl ?_)
    refine e_ic (1) dX3_howOften_55 (by decide) (pn 56 rfl ?_)
    refine e_icmp_lt 97 dX3_howOften_56 (by decide) (fun c56 => ?_) (fun c56 => pn 59 rfl ?_)
    · exact e_dr [_, _, _, _, _, _] 4 rfl (e_dr [_, _, _, _, _, _] 5 rfl K)
    · exact absurd (by decide) c56
  | succ k ih =>
    intro e hk K
    have s4 := okL_get oks.2 k
    have hp := h.up e
    have q1 : nI (k + 1) - 1 = nI k := nI_pred k
    refine e_iload dX3_howOften_53 rfl (pn 55 rfl ?_)
    refine e_ic (1) dX3_howOften_55 (by decide) (pn 56 rfl ?_)
    refine e_icmp_lt 97 dX3_howOften_56 (by decide) (fun c56 => ?_) (fun c56 => pn 59 rfl ?_)
    · exact absurd c56 (nI_nlt (b := 1) (by omega) (by omega))
    · refine e_aload_n dX3_howOften_59 rfl (pn 60 rfl ?_)
      refine e_iload dX3_howOften_60 rfl (pn 62 rfl ?_)
      refine e_ic (1) dX3_howOften_62 (by decide) (pn 63 rfl ?_)
      refine e_isub dX3_howOften_63 (pn 64 rfl ?_)
      rw [q1]
      refine c_V1 dX3_howOften_64 ml_X3_24 mv_X4_letter (by decide) (w_letter oks (gne e1 ha) (show k < 32 by omega)) (gne e1 ha) rfl rfl (Nat.le_of_ble_eq_true rfl) (pn 67 rfl ?_)
      refine e_iload dX3_howOften_67 rfl (pn 69 rfl ?_)
      rw [hoI] at K
      refine e_icmp_ne 91 dX3_howOften_69 (by decide) (fun c69 => ?_) (fun c69 => pn 72 rfl ?_)
      · have hne : ¬ s.getD k 0 = l := fun q => c69 (by rw [q])
        rw [if_neg hne] at K
        refine s_inc [_, _, _, _, _, _] (-1) dX3_howOften_91 (by decide) rfl (Nat.le_of_ble_eq_true rfl) rfl (pn 94 rfl ?_)
        refine e_goto 53 dX3_howOften_94 (by decide) ?_
        rw [pk_m1]
        exact ih _ (by omega) K
      · have he : s.getD k 0 = l := (nI_eq (by omega) (by omega)).mp c69
        rw [if_pos he] at K
        refine e_aload_n dX3_howOften_72 rfl (pn 73 rfl ?_)
        refine e_get dX3_howOften_73 fl_X3_9 hp.1 rfl (pn 76 rfl ?_)
        refine e_iload dX3_howOften_76 rfl (pn 78 rfl ?_)
        refine e_dup2 dX3_howOften_78 rfl rfl (pn 79 rfl ?_)
        refine e_lald (k + 1) dX3_howOften_79 hp.2.1 rfl (by omega) (by omega) (pn 80 rfl ?_)
        refine e_aload_n dX3_howOften_80 rfl (pn 81 rfl ?_)
        refine e_get dX3_howOften_81 fl_X3_9 hp.1 rfl (pn 84 rfl ?_)
        refine e_iload dX3_howOften_84 rfl (pn 86 rfl ?_)
        refine e_ic (1) dX3_howOften_86 (by decide) (pn 87 rfl ?_)
        refine e_isub dX3_howOften_87 (pn 88 rfl ?_)
        refine e_lald (k) dX3_howOften_88 hp.2.1 q1 (by omega) (by omega) (pn 89 rfl ?_)
        refine e_ladd dX3_howOften_89 (pn 90 rfl ?_)
        refine e_last (k + 1) dX3_howOften_90 hp.2.1 rfl (by omega) (by omega) (pn 91 rfl ?_)
        rw [List.set_set]
        refine s_inc [_, _, _, _, _, _] (-1) dX3_howOften_91 (by decide) rfl (Nat.le_of_ble_eq_true rfl) rfl (pn 94 rfl ?_)
        refine e_goto 53 dX3_howOften_94 (by decide) ?_
        rw [pk_m1]
        exact ih _ (by omega) K
theorem o_O {w : Wd} {e0 g : Nat → Int64} (h : pP w e0 g) {a b : Nat} {s t : List Nat} (ha : w[a]? = some (rowW s)) (hb : w[b]? = some (rowW t)) (oks : okW s) (okt : okW t) {r : Option Value} {w' : Wd} : ∀ (n i : Nat) (e : Nat → Int64), i + n = t.length → EW mX3_howOften none 103 [.ref 19, .ref a, .ref b, dmy, dmy, dmy] [] (w.set 20 (aJ 25 (hoO s t n i e))) r w' → EW mX3_howOften none 32 [.ref 19, .ref a, .ref b, .int (nI i), dmy, dmy] [] (w.set 20 (aJ 25 e)) r w' := by
  have b1 := oks.1
  have b2 := okt.1
  have e1 := neJ h.2.1 ha
  have e2 := neJ h.2.1 hb
  intro n
  induction n with
  | zero =>
    intro i e hi K
    refine e_iload_n dX3_howOften_32 rfl (pn 33 rfl ?_)
    refine e_aload_n dX3_howOften_33 rfl (pn 34 rfl ?_)
    refine e_get dX3_howOften_34 fl_X3_18 (gne e2 hb) rfl (pn 37 rfl ?_)
    refine e_icmp_ge 103 dX3_howOften_37 (by decide) (fun c37 => ?_) (fun c37 => pn 40 rfl ?_)
    · exact e_dr [_, _, _, _, _, _] 3 rfl K
    · exact absurd (nI_le (by omega) (by omega)) c37
  | succ n ih =>
    intro i e hi K
    refine e_iload_n dX3_howOften_32 rfl (pn 33 rfl ?_)
    refine e_aload_n dX3_howOften_33 rfl (pn 34 rfl ?_)
    refine e_get dX3_howOften_34 fl_X3_18 (gne e2 hb) rfl (pn 37 rfl ?_)
    refine e_icmp_ge 103 dX3_howOften_37 (by decide) (fun c37 => ?_) (fun c37 => pn 40 rfl ?_)
    · exact absurd c37 (nI_ge (by omega) (by omega))
    · refine e_aload_n dX3_howOften_40 rfl (pn 41 rfl ?_)
      refine e_iload_n dX3_howOften_41 rfl (pn 42 rfl ?_)
      refine c_V1 dX3_howOften_42 ml_X3_24 mv_X4_letter (by decide) (w_letter okt (gne e2 hb) (show i < 32 by omega)) (gne e2 hb) rfl rfl (Nat.le_of_ble_eq_true rfl) (pn 45 rfl ?_)
      refine s_i [_, _, _, _, _, _] dX3_howOften_45 (Nat.le_of_ble_eq_true rfl) rfl (pn 47 rfl ?_)
      refine e_aload_n dX3_howOften_47 rfl (pn 48 rfl ?_)
      refine e_get dX3_howOften_48 fl_X3_18 (gne e1 ha) rfl (pn 51 rfl ?_)
      refine s_i [_, _, _, _, _, _] dX3_howOften_51 (Nat.le_of_ble_eq_true rfl) rfl (pn 53 rfl ?_)
      refine o_I h ha oks (okL_get okt.2 i) s.length e (Nat.le_refl _) ?_
      refine s_inc [_, _, _, _, _, _] (1) dX3_howOften_97 (by decide) rfl (Nat.le_of_ble_eq_true rfl) rfl (pn 100 rfl ?_)
      refine e_goto 32 dX3_howOften_100 (by decide) ?_
      rw [nI_1]
      exact ih (i + 1) _ (by omega) K
theorem o_V {w : Wd} {e g : Nat → Int64} (h : pP w e g) {a b : Nat} {s t : List Nat} (ha : w[a]? = some (rowW s)) (hb : w[b]? = some (rowW t)) (oks : okW s) (okt : okW t) : CW mX3_howOften [.ref 19, .ref a, .ref b] w (some (.long (hoV s t e s.length))) (w.set 20 (aJ 25 (hoV s t e))) := by
  have b1 := oks.1
  have e1 := neJ h.2.1 ha
  refine cw_of (M := mX3_howOften) fx_X3_howOften (lv := [.ref 19, .ref a, .ref b, dmy, dmy, dmy]) rfl (Nat.le_of_ble_eq_true rfl) ?_
  refine e_aload_n dX3_howOften_0 rfl (pn 1 rfl ?_)
  refine e_get dX3_howOften_1 fl_X3_9 h.1 rfl (pn 4 rfl ?_)
  refine e_ic (0) dX3_howOften_4 (by decide) (pn 5 rfl ?_)
  refine e_lc (1) dX3_howOften_5 (by decide) (pn 6 rfl ?_)
  refine e_last (0) dX3_howOften_6 h.2.1 rfl (by decide) (by omega) (pn 7 rfl ?_)
  refine e_ic (1) dX3_howOften_7 (by decide) (pn 8 rfl ?_)
  refine s_in [_, _, _, _, _, _] dX3_howOften_8 (Nat.le_of_ble_eq_true rfl) rfl (pn 9 rfl ?_)
  refine o_Z h ha oks s.length 1 _ (by omega) ?_
  refine e_ic (0) dX3_howOften_30 (by decide) (pn 31 rfl ?_)
  refine s_in [_, _, _, _, _, _] dX3_howOften_31 (Nat.le_of_ble_eq_true rfl) rfl (pn 32 rfl ?_)
  refine o_O h ha hb oks okt t.length 0 _ (by omega) ?_
  refine e_aload_n dX3_howOften_103 rfl (pn 104 rfl ?_)
  refine e_get dX3_howOften_104 fl_X3_9 (h.up _).1 rfl (pn 107 rfl ?_)
  refine e_aload_n dX3_howOften_107 rfl (pn 108 rfl ?_)
  refine e_get dX3_howOften_108 fl_X3_18 (gne e1 ha) rfl (pn 111 rfl ?_)
  refine e_lald (s.length) dX3_howOften_111 (h.up _).2.1 rfl (by omega) (by omega) (pn 112 rfl ?_)
  exact e_lret dX3_howOften_112 rfl rfl rfl
/-! byLosing -/
def lfS (g : Nat → Int64) (t : List Nat) (i lost : Nat) : Nat → Int64
  | 0 => 0
  | l + 1 => if nxW t l i < t.length ∧ nxW t l i - i ≤ lost then lfS g t i lost l + g ((nxW t l i + 1) * 7 + lost - (nxW t l i - i)) else lfS g t i lost l
def lfV (g : Nat → Int64) (q : Nat) (t : List Nat) (i lost : Nat) : Int64 := if t.length - i ≤ lost then (if t.length - i = lost then 1 else 0) else lfS g t i lost q
theorem l_S {w : Wd} {e g : Nat → Int64} (h : pP w e g) {a : Nat} {t : List Nat} (ha : w[a]? = some (rowW t)) (okt : okW t) {q : Nat} (hq : 2 ≤ q ∧ q ≤ 4) {i lost : Nat} (hi : i ≤ t.length) (hlo : lost ≤ 6) : ∀ (n l : Nat), l + n = q → EW mX3_leftFrom none 32 [.ref 19, .ref a, .int (nI i), .int (nI lost), .int (nI q), .long (lfS g t i lost l), dmy, .int (nI l), dmy] [] w (some (.long (lfS g t i lost q))) w := by
  have b1 := okt.1
  intro n
  induction n with
  | zero =>
    intro l hl
    have e : l = q := by omega
    subst e
    refine e_iload dX3_leftFrom_32 rfl (pn 34 rfl ?_)
    refine e_iload dX3_leftFrom_34 rfl (pn 36 rfl ?_)
    refine e_icmp_ge 95 dX3_leftFrom_36 (by decide) (fun c36 => ?_) (fun c36 => pn 39 rfl ?_)
    · refine e_lload dX3_leftFrom_95 rfl (pn 97 rfl ?_)
      exact e_lret dX3_leftFrom_97 rfl rfl rfl
    · exact absurd (nI_le (Nat.le_refl _) (by omega)) c36
  | succ n ih =>
    intro l hl
    have n1 := nxW_le t l i
    have K := ih (l + 1) (by omega)
    rw [lfS] at K
    refine e_iload dX3_leftFrom_32 rfl (pn 34 rfl ?_)
    refine e_iload dX3_leftFrom_34 rfl (pn 36 rfl ?_)
    refine e_icmp_ge 95 dX3_leftFrom_36 (by decide) (fun c36 => ?_) (fun c36 => pn 39 rfl ?_)
    · exact absurd c36 (nI_ge (by omega) (by omega))
    · refine e_aload_n dX3_leftFrom_39 rfl (pn 40 rfl ?_)
      refine e_iload dX3_leftFrom_40 rfl (pn 42 rfl ?_)
      refine e_iload_n dX3_leftFrom_42 rfl (pn 43 rfl ?_)
      refine c_V1 dX3_leftFrom_43 ml_X3_32 mv_X4_next (by decide) (w_next okt ha (l := l) (p := i) (by omega) (by omega)) ha rfl rfl (Nat.le_of_ble_eq_true rfl) (pn 46 rfl ?_)
      refine s_i [_, _, _, _, _, _, _, _, _] dX3_leftFrom_46 (Nat.le_of_ble_eq_true rfl) rfl (pn 48 rfl ?_)
      refine e_iload dX3_leftFrom_48 rfl (pn 50 rfl ?_)
      refine e_aload_n dX3_leftFrom_50 rfl (pn 51 rfl ?_)
      refine e_get dX3_leftFrom_51 fl_X3_18 ha rfl (pn 54 rfl ?_)
      refine e_icmp_ge 89 dX3_leftFrom_54 (by decide) (fun c54 => ?_) (fun c54 => pn 57 rfl ?_)
      · have hc : ¬ nxW t l i < t.length := fun q => nI_ge q (by omega) c54
        rw [if_neg (fun q => hc q.1)] at K
        refine s_inc [_, _, _, _, _, _, _, _, _] (1) dX3_leftFrom_89 (by decide) rfl (Nat.le_of_ble_eq_true rfl) rfl (pn 92 rfl ?_)
        refine e_goto 32 dX3_leftFrom_92 (by decide) ?_
        rw [nI_1]
        exact e_dr [_, _, _, _, _, _, _, _, _] 8 rfl K
      · have hc : nxW t l i < t.length := Nat.lt_of_not_le (fun q => c54 (nI_le q (by omega)))
        refine e_iload dX3_leftFrom_57 rfl (pn 59 rfl ?_)
        refine e_iload_n dX3_leftFrom_59 rfl (pn 60 rfl ?_)
        refine e_isub dX3_leftFrom_60 (pn 61 rfl ?_)
        refine e_iload_n dX3_leftFrom_61 rfl (pn 62 rfl ?_)
        rw [pk_sub n1.1]
        refine e_icmp_gt 89 dX3_leftFrom_62 (by decide) (fun c62 => ?_) (fun c62 => pn 65 rfl ?_)
        · have hc2 : ¬ nxW t l i - i ≤ lost := fun q => nI_nlt q (by omega) c62
          rw [if_neg (fun q => hc2 q.2)] at K
          refine s_inc [_, _, _, _, _, _, _, _, _] (1) dX3_leftFrom_89 (by decide) rfl (Nat.le_of_ble_eq_true rfl) rfl (pn 92 rfl ?_)
          refine e_goto 32 dX3_leftFrom_92 (by decide) ?_
          rw [nI_1]
          exact e_dr [_, _, _, _, _, _, _, _, _] 8 rfl K
        · have hc2 : nxW t l i - i ≤ lost := Nat.le_of_not_lt (fun q => c62 (nI_lt q (by omega)))
          rw [if_pos ⟨hc, hc2⟩] at K
          have ix : (nI (nxW t l i) + 1) * 7 + nI lost - (nI (nxW t l i) - nI i) = nI ((nxW t l i + 1) * 7 + lost - (nxW t l i - i)) := by
            rw [nI_1, show (7 : Int32) = nI 7 from rfl, pk_mul, nI_add, pk_sub n1.1, pk_sub (by omega)]
          refine e_lload dX3_leftFrom_65 rfl (pn 67 rfl ?_)
          refine e_aload_n dX3_leftFrom_67 rfl (pn 68 rfl ?_)
          refine e_get dX3_leftFrom_68 fl_X3_15 h.1 rfl (pn 71 rfl ?_)
          refine e_iload dX3_leftFrom_71 rfl (pn 73 rfl ?_)
          refine e_ic (1) dX3_leftFrom_73 (by decide) (pn 74 rfl ?_)
          refine e_iadd dX3_leftFrom_74 (pn 75 rfl ?_)
          refine e_bi (7) dX3_leftFrom_75 (by decide) (pn 77 rfl ?_)
          refine e_imul dX3_leftFrom_77 (pn 78 rfl ?_)
          refine e_iload_n dX3_leftFrom_78 rfl (pn 79 rfl ?_)
          refine e_iadd dX3_leftFrom_79 (pn 80 rfl ?_)
          refine e_iload dX3_leftFrom_80 rfl (pn 82 rfl ?_)
          refine e_iload_n dX3_leftFrom_82 rfl (pn 83 rfl ?_)
          refine e_isub dX3_leftFrom_83 (pn 84 rfl ?_)
          refine e_isub dX3_leftFrom_84 (pn 85 rfl ?_)
          refine e_lald ((nxW t l i + 1) * 7 + lost - (nxW t l i - i)) dX3_leftFrom_85 h.2.2 ix (by omega) (by omega) (pn 86 rfl ?_)
          refine e_ladd dX3_leftFrom_86 (pn 87 rfl ?_)
          refine s_l [_, _, _, _, _, _, _, _, _] dX3_leftFrom_87 (Nat.le_of_ble_eq_true rfl) rfl (pn 89 rfl ?_)
          refine s_inc [_, _, _, _, _, _, _, _, _] (1) dX3_leftFrom_89 (by decide) rfl (Nat.le_of_ble_eq_true rfl) rfl (pn 92 rfl ?_)
          refine e_goto 32 dX3_leftFrom_92 (by decide) ?_
          rw [nI_1]
          exact e_dr [_, _, _, _, _, _, _, _, _] 8 rfl K
theorem l_V {w : Wd} {e g : Nat → Int64} (h : pP w e g) {a : Nat} {t : List Nat} (ha : w[a]? = some (rowW t)) (okt : okW t) {q : Nat} (hq : 2 ≤ q ∧ q ≤ 4) {i lost : Nat} (hi : i ≤ t.length) (hlo : lost ≤ 6) : CW mX3_leftFrom [.ref 19, .ref a, .int (nI i), .int (nI lost), .int (nI q)] w (some (.long (lfV g q t i lost))) w := by
  have b1 := okt.1
  refine cw_of (M := mX3_leftFrom) fx_X3_leftFrom (lv := [.ref 19, .ref a, .int (nI i), .int (nI lost), .int (nI q), dmy, dmy, dmy, dmy]) rfl (Nat.le_of_ble_eq_true rfl) ?_
  refine e_aload_n dX3_leftFrom_0 rfl (pn 1 rfl ?_)
  refine e_get dX3_leftFrom_1 fl_X3_18 ha rfl (pn 4 rfl ?_)
  refine e_iload_n dX3_leftFrom_4 rfl (pn 5 rfl ?_)
  refine e_isub dX3_leftFrom_5 (pn 6 rfl ?_)
  refine e_iload_n dX3_leftFrom_6 rfl (pn 7 rfl ?_)
  rw [pk_sub hi]
  refine e_icmp_gt 26 dX3_leftFrom_7 (by decide) (fun c7 => ?_) (fun c7 => pn 10 rfl ?_)
  · have hc : ¬ t.length - i ≤ lost := fun q => nI_nlt q (by omega) c7
    rw [lfV, if_neg hc]
    refine e_lc (0) dX3_leftFrom_26 (by decide) (pn 27 rfl ?_)
    refine s_l [_, _, _, _, _, _, _, _, _] dX3_leftFrom_27 (Nat.le_of_ble_eq_true rfl) rfl (pn 29 rfl ?_)
    refine e_ic (0) dX3_leftFrom_29 (by decide) (pn 30 rfl ?_)
    refine s_i [_, _, _, _, _, _, _, _, _] dX3_leftFrom_30 (Nat.le_of_ble_eq_true rfl) rfl (pn 32 rfl ?_)
    exact l_S h ha okt hq hi hlo q 0 (by omega)
  · have hc : t.length - i ≤ lost := Nat.le_of_not_lt (fun q => c7 (nI_lt q (by omega)))
    rw [lfV, if_pos hc]
    refine e_aload_n dX3_leftFrom_10 rfl (pn 11 rfl ?_)
    refine e_get dX3_leftFrom_11 fl_X3_18 ha rfl (pn 14 rfl ?_)
    refine e_iload_n dX3_leftFrom_14 rfl (pn 15 rfl ?_)
    refine e_isub dX3_leftFrom_15 (pn 16 rfl ?_)
    refine e_iload_n dX3_leftFrom_16 rfl (pn 17 rfl ?_)
    rw [pk_sub hi]
    refine e_icmp_ne 24 dX3_leftFrom_17 (by decide) (fun c17 => ?_) (fun c17 => pn 20 rfl ?_)
    · have hc2 : ¬ t.length - i = lost := fun q => c17 (by rw [q])
      refine e_lc (0) dX3_leftFrom_24 (by decide) (pn 25 rfl ?_)
      exact e_lret dX3_leftFrom_25 rfl (by rw [if_neg hc2]) rfl
    · have hc2 : t.length - i = lost := (nI_eq (by omega) (by omega)).mp c17
      refine e_lc (1) dX3_leftFrom_20 (by decide) (pn 21 rfl ?_)
      refine e_goto 25 dX3_leftFrom_21 (by decide) ?_
      exact e_lret dX3_leftFrom_25 rfl (by rw [if_pos hc2]) rfl
def lfI (q : Nat) (t : List Nat) (i : Nat) : Nat → Nat → (Nat → Int64) → Nat → Int64
  | 0, _, g => g
  | m + 1, lost, g => lfI q t i m (lost + 1) (va_up g (i * 7 + lost) (lfV g q t i lost))
def lfO (q n : Nat) (t : List Nat) : Nat → (Nat → Int64) → Nat → Int64
  | 0, g => g
  | k + 1, g => lfO q n t k (lfI q t k (n + 1) 0 g)
theorem l_in {w : Wd} {e g0 : Nat → Int64} (h : pP w e g0) {a : Nat} {t : List Nat} (ha : w[a]? = some (rowW t)) (okt : okW t) {q n : Nat} (hq : 2 ≤ q ∧ q ≤ 4) (hn : n ≤ 6) {r : Option Value} {w' : Wd} (i : Nat) (hi : i ≤ t.length) : ∀ (m lost : Nat) (g : Nat → Int64), lost + m = n + 1 → EW mX3_byLosing none 49 [.ref 19, .ref a, .int (nI n), .int (nI q), .int (nI i), dmy] [] (w.set 21 (aJ 175 (lfI q t i m lost g))) r w' → EW mX3_byLosing none 14 [.ref 19, .ref a, .int (nI n), .int (nI q), .int (nI i), .int (nI lost)] [] (w.set 21 (aJ 175 g)) r w' := by
  have b1 := okt.1
  have e1 := neJ h.2.2 ha
  intro m
  induction m with
  | zero =>
    intro lost g hm K
    refine e_iload dX3_byLosing_14 rfl (pn 16 rfl ?_)
    refine e_iload_n dX3_byLosing_16 rfl (pn 17 rfl ?_)
    refine e_icmp_gt 49 dX3_byLosing_17 (by decide) (fun c17 => ?_) (fun c17 => pn 20 rfl ?_)
    · exact e_dr [_, _, _, _, _, _] 5 rfl K
    · exact absurd (nI_lt (by omega) (by omega)) c17
  | succ m ih =>
    intro lost g hm K
    have hp := h.upL g
    refine e_iload dX3_byLosing_14 rfl (pn 16 rfl ?_)
    refine e_iload_n dX3_byLosing_16 rfl (pn 17 rfl ?_)
    refine e_icmp_gt 49 dX3_byLosing_17 (by decide) (fun c17 => ?_) (fun c17 => pn 20 rfl ?_)
    · exact absurd c17 (nI_nlt (by omega) (by omega))
    · refine e_aload_n dX3_byLosing_20 rfl (pn 21 rfl ?_)
      refine e_get dX3_byLosing_21 fl_X3_15 hp.1 rfl (pn 24 rfl ?_)
      refine e_iload dX3_byLosing_24 rfl (pn 26 rfl ?_)
      refine e_bi (7) dX3_byLosing_26 (by decide) (pn 28 rfl ?_)
      refine e_imul dX3_byLosing_28 (pn 29 rfl ?_)
      refine e_iload dX3_byLosing_29 rfl (pn 31 rfl ?_)
      refine e_iadd dX3_byLosing_31 (pn 32 rfl ?_)
      refine e_aload_n dX3_byLosing_32 rfl (pn 33 rfl ?_)
      refine e_aload_n dX3_byLosing_33 rfl (pn 34 rfl ?_)
      refine e_iload dX3_byLosing_34 rfl (pn 36 rfl ?_)
      refine e_iload dX3_byLosing_36 rfl (pn 38 rfl ?_)
      refine e_iload_n dX3_byLosing_38 rfl (pn 39 rfl ?_)
      refine c_V1 dX3_byLosing_39 ml_X3_28 mv_X3_leftFrom (by decide) (l_V hp (gne e1 ha) okt hq hi (by omega)) hp.1 rfl rfl (Nat.le_of_ble_eq_true rfl) (pn 42 rfl ?_)
      refine e_last (i * 7 + lost) dX3_byLosing_42 hp.2.2 (by rw [show (7 : Int32) = nI 7 from rfl, pk_mul, nI_add]) (by omega) (by omega) (pn 43 rfl ?_)
      rw [List.set_set]
      refine s_inc [_, _, _, _, _, _] (1) dX3_byLosing_43 (by decide) rfl (Nat.le_of_ble_eq_true rfl) rfl (pn 46 rfl ?_)
      refine e_goto 14 dX3_byLosing_46 (by decide) ?_
      rw [nI_1]
      exact ih (lost + 1) _ (by omega) K
theorem l_out {w : Wd} {e g0 : Nat → Int64} (h : pP w e g0) {a : Nat} {t : List Nat} (ha : w[a]? = some (rowW t)) (okt : okW t) {q n : Nat} (hq : 2 ≤ q ∧ q ≤ 4) (hn : n ≤ 6) {r : Option Value} {w' : Wd} : ∀ (k : Nat) (g : Nat → Int64), k ≤ t.length + 1 → EW mX3_byLosing none 55 [.ref 19, .ref a, .int (nI n), .int (nI q), dmy, dmy] [] (w.set 21 (aJ 175 (lfO q n t k g))) r w' → EW mX3_byLosing none 6 [.ref 19, .ref a, .int (nI n), .int (nI q), .int (nI k + (-1)), dmy] [] (w.set 21 (aJ 175 g)) r w' := by
  have b1 := okt.1
  intro k
  induction k with
  | zero =>
    intro g hk K
    refine e_iload dX3_byLosing_6 rfl (pn 8 rfl ?_)
    refine e_if_lt 55 dX3_byLosing_8 (by decide) (fun c8 => ?_) (fun c8 => pn 11 rfl ?_)
    · exact e_dr [_, _, _, _, _, _] 4 rfl K
    · exact absurd ((m1_lt 0 (by decide)).mpr rfl) c8
  | succ k ih =>
    intro g hk K
    simp only [pk_m1]
    refine e_iload dX3_byLosing_6 rfl (pn 8 rfl ?_)
    refine e_if_lt 55 dX3_byLosing_8 (by decide) (fun c8 => ?_) (fun c8 => pn 11 rfl ?_)
    · exact absurd c8 (nI_pos (by omega))
    · refine e_ic (0) dX3_byLosing_11 (by decide) (pn 12 rfl ?_)
      refine s_i [_, _, _, _, _, _] dX3_byLosing_12 (Nat.le_of_ble_eq_true rfl) rfl (pn 14 rfl ?_)
      refine l_in h ha okt hq hn k (by omega) (n + 1) 0 g (by omega) ?_
      refine s_inc [_, _, _, _, _, _] (-1) dX3_byLosing_49 (by decide) rfl (Nat.le_of_ble_eq_true rfl) rfl (pn 52 rfl ?_)
      refine e_goto 6 dX3_byLosing_52 (by decide) ?_
      exact ih _ (by omega) K
theorem l_by {w : Wd} {e g : Nat → Int64} (h : pP w e g) {a : Nat} {t : List Nat} (ha : w[a]? = some (rowW t)) (okt : okW t) {q n : Nat} (hq : 2 ≤ q ∧ q ≤ 4) (hn : n ≤ 6) : CW mX3_byLosing [.ref 19, .ref a, .int (nI n), .int (nI q)] w (some (.long (lfO q n t (t.length + 1) g n))) (w.set 21 (aJ 175 (lfO q n t (t.length + 1) g))) := by
  refine cw_of (M := mX3_byLosing) fx_X3_byLosing (lv := [.ref 19, .ref a, .int (nI n), .int (nI q), dmy, dmy]) rfl (Nat.le_of_ble_eq_true rfl) ?_
  refine e_aload_n dX3_byLosing_0 rfl (pn 1 rfl ?_)
  refine e_get dX3_byLosing_1 fl_X3_18 ha rfl (pn 4 rfl ?_)
  refine s_i [_, _, _, _, _, _] dX3_byLosing_4 (Nat.le_of_ble_eq_true rfl) rfl (pn 6 rfl ?_)
  refine pw (set_id h.2.2).symm ?_
  rw [← pk_m1 t.length]
  refine l_out h ha okt hq hn (t.length + 1) g (Nat.le_refl _) ?_
  refine e_aload_n dX3_byLosing_55 rfl (pn 56 rfl ?_)
  refine e_get dX3_byLosing_56 fl_X3_15 (h.upL _).1 rfl (pn 59 rfl ?_)
  refine e_iload_n dX3_byLosing_59 rfl (pn 60 rfl ?_)
  refine e_lald (n) dX3_byLosing_60 (h.upL _).2.2 rfl (by omega) (by omega) (pn 61 rfl ?_)
  exact e_lret dX3_byLosing_61 rfl rfl rfl
/-! byGaining -/
def bgL (len q1 : Int32) : Nat → Nat → Int64 → Int64 → Int64 → Int64
  | 0, _, _, _, A => A
  | n + 1, i, P, O, A => bgL len q1 n (i + 1) (P * (len - nI i).toInt64 / (nI i + 1).toInt64) (O * q1.toInt64) (A + P * O)
theorem ne0L {i : Nat} (h : i < 2 ^ 30) : ¬ (nI i + 1).toInt64 = 0 := by
  rw [nI_1, nI_l (by omega), show (0 : Int64) = lN 0 from rfl, lN_eq (by omega) (by omega)]
  omega
theorem g_L {w : Wd} {a : Nat} {len q n0 : Int32} {n : Nat} (hn : n ≤ 6) : ∀ (m i : Nat) (P O A : Int64), i + m = n + 1 → EW mX3_byGaining none 20 [.ref 19, .ref a, .int (nI n), .int q, .int len, .long P, dmy, .long O, dmy, .long A, dmy, .int (nI i)] [] w (some (.long (bgL len (q - 1) m i P O A))) w := by
  intro m
  induction m with
  | zero =>
    intro i P O A hi
    refine e_iload dX3_byGaining_20 rfl (pn 22 rfl ?_)
    refine e_iload_n dX3_byGaining_22 rfl (pn 23 rfl ?_)
    refine e_icmp_gt 68 dX3_byGaining_23 (by decide) (fun c23 => ?_) (fun c23 => pn 26 rfl ?_)
    · refine e_lload dX3_byGaining_68 rfl (pn 70 rfl ?_)
      exact e_lret dX3_byGaining_70 rfl rfl rfl
    · exact absurd (nI_lt (by omega) (by omega)) c23
  | succ m ih =>
    intro i P O A hi
    refine e_iload dX3_byGaining_20 rfl (pn 22 rfl ?_)
    refine e_iload_n dX3_byGaining_22 rfl (pn 23 rfl ?_)
    refine e_icmp_gt 68 dX3_byGaining_23 (by decide) (fun c23 => ?_) (fun c23 => pn 26 rfl ?_)
    · exact absurd c23 (nI_nlt (by omega) (by omega))
    · refine e_lload dX3_byGaining_26 rfl (pn 28 rfl ?_)
      refine e_lload dX3_byGaining_28 rfl (pn 30 rfl ?_)
      refine e_lload dX3_byGaining_30 rfl (pn 32 rfl ?_)
      refine e_lmul dX3_byGaining_32 (pn 33 rfl ?_)
      refine e_ladd dX3_byGaining_33 (pn 34 rfl ?_)
      refine s_l [_, _, _, _, _, _, _, _, _, _, _, _] dX3_byGaining_34 (Nat.le_of_ble_eq_true rfl) rfl (pn 36 rfl ?_)
      refine e_lload dX3_byGaining_36 rfl (pn 38 rfl ?_)
      refine e_iload dX3_byGaining_38 rfl (pn 40 rfl ?_)
      refine e_iload dX3_byGaining_40 rfl (pn 42 rfl ?_)
      refine e_isub dX3_byGaining_42 (pn 43 rfl ?_)
      refine e_i2l dX3_byGaining_43 (pn 44 rfl ?_)
      refine e_lmul dX3_byGaining_44 (pn 45 rfl ?_)
      refine e_iload dX3_byGaining_45 rfl (pn 47 rfl ?_)
      refine e_ic (1) dX3_byGaining_47 (by decide) (pn 48 rfl ?_)
      refine e_iadd dX3_byGaining_48 (pn 49 rfl ?_)
      refine e_i2l dX3_byGaining_49 (pn 50 rfl ?_)
      refine e_ldiv dX3_byGaining_50 (ne0L (by omega)) (pn 51 rfl ?_)
      refine s_l [_, _, _, _, _, _, _, _, _, _, _, _] dX3_byGaining_51 (Nat.le_of_ble_eq_true rfl) rfl (pn 53 rfl ?_)
      refine e_lload dX3_byGaining_53 rfl (pn 55 rfl ?_)
      refine e_iload_n dX3_byGaining_55 rfl (pn 56 rfl ?_)
      refine e_ic (1) dX3_byGaining_56 (by decide) (pn 57 rfl ?_)
      refine e_isub dX3_byGaining_57 (pn 58 rfl ?_)
      refine e_i2l dX3_byGaining_58 (pn 59 rfl ?_)
      refine e_lmul dX3_byGaining_59 (pn 60 rfl ?_)
      refine s_l [_, _, _, _, _, _, _, _, _, _, _, _] dX3_byGaining_60 (Nat.le_of_ble_eq_true rfl) rfl (pn 62 rfl ?_)
      refine s_inc [_, _, _, _, _, _, _, _, _, _, _, _] (1) dX3_byGaining_62 (by decide) rfl (Nat.le_of_ble_eq_true rfl) rfl (pn 65 rfl ?_)
      refine e_goto 20 dX3_byGaining_65 (by decide) ?_
      rw [bgL]
      have K := ih (i + 1) (P * (len - nI i).toInt64 / (nI i + 1).toInt64) (O * (q - 1).toInt64) (A + P * O) (by omega)
      rw [← nI_1 i] at K
      exact K
theorem g_by {w : Wd} {a : Nat} {t : List Nat} (ha : w[a]? = some (rowW t)) {q : Int32} {n : Nat} (hn : n ≤ 6) : CW mX3_byGaining [.ref 19, .ref a, .int (nI n), .int q] w (some (.long (bgL (nI t.length + nI n) (q - 1) (n + 1) 0 1 1 0))) w := by
  refine cw_of (M := mX3_byGaining) fx_X3_byGaining (lv := [.ref 19, .ref a, .int (nI n), .int q, dmy, dmy, dmy, dmy, dmy, dmy, dmy, dmy]) rfl (Nat.le_of_ble_eq_true rfl) ?_
  refine e_aload_n dX3_byGaining_0 rfl (pn 1 rfl ?_)
  refine e_get dX3_byGaining_1 fl_X3_18 ha rfl (pn 4 rfl ?_)
  refine e_iload_n dX3_byGaining_4 rfl (pn 5 rfl ?_)
  refine e_iadd dX3_byGaining_5 (pn 6 rfl ?_)
  refine s_i [_, _, _, _, _, _, _, _, _, _, _, _] dX3_byGaining_6 (Nat.le_of_ble_eq_true rfl) rfl (pn 8 rfl ?_)
  refine e_lc (1) dX3_byGaining_8 (by decide) (pn 9 rfl ?_)
  refine s_l [_, _, _, _, _, _, _, _, _, _, _, _] dX3_byGaining_9 (Nat.le_of_ble_eq_true rfl) rfl (pn 11 rfl ?_)
  refine e_lc (1) dX3_byGaining_11 (by decide) (pn 12 rfl ?_)
  refine s_l [_, _, _, _, _, _, _, _, _, _, _, _] dX3_byGaining_12 (Nat.le_of_ble_eq_true rfl) rfl (pn 14 rfl ?_)
  refine e_lc (0) dX3_byGaining_14 (by decide) (pn 15 rfl ?_)
  refine s_l [_, _, _, _, _, _, _, _, _, _, _, _] dX3_byGaining_15 (Nat.le_of_ble_eq_true rfl) rfl (pn 17 rfl ?_)
  refine e_ic (0) dX3_byGaining_17 (by decide) (pn 18 rfl ?_)
  refine s_i [_, _, _, _, _, _, _, _, _, _, _, _] dX3_byGaining_18 (Nat.le_of_ble_eq_true rfl) rfl (pn 20 rfl ?_)
  exact g_L (n0 := 0) hn (n + 1) 0 1 1 0 (by omega)
