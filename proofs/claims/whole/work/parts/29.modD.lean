/-! listed -/
theorem M_list0 (w : Wd) {s i : Int32} (h : ¬ (rOK s ∧ 0 ≤ i)) : CW mX7_listed [.ref 41, .int s, .int i] w (some (.int (-1))) w := by
  refine cw_of (M := mX7_listed) fx_X7_listed (lv := [.ref 41, .int s, .int i, dmy, dmy, dmy, dmy, dmy, dmy, dmy]) rfl (Nat.le_of_ble_eq_true rfl) ?_
  refine e_iload_n dX7_listed_0 rfl (pn 1 rfl ?_)
  refine c_S1 dX7_listed_1 ml_X7_53 ms_X7_isRegister (by decide) (q_isR w s) rfl rfl (Nat.le_of_ble_eq_true rfl) (pn 4 rfl ?_)
  by_cases hs : rOK s
  · rw [iRp hs]
    refine e_if_eq 11 dX7_listed_4 (by decide) (fun c_9 => absurd c_9 (by decide)) (fun _ => pn 7 rfl ?_)
    refine e_iload_n dX7_listed_7 rfl (pn 8 rfl ?_)
    refine e_if_ge 13 dX7_listed_8 (by decide) (fun c_9 => absurd c_9 (fun e => h ⟨hs, e⟩)) (fun _ => pn 11 rfl ?_)
    refine e_ic (-1) dX7_listed_11 (by decide) (pn 12 rfl ?_)
    exact e_iret dX7_listed_12 rfl rfl rfl
  · rw [iR0 hs]
    refine e_if_eq 11 dX7_listed_4 (by decide) (fun _ => ?_) (fun c_9 => absurd (by decide) c_9)
    refine e_ic (-1) dX7_listed_11 (by decide) (pn 12 rfl ?_)
    exact e_iret dX7_listed_12 rfl rfl rfl
theorem M_list1 {w : Wd} {S : St} (h : MI w S) {s i : Nat} (hs : s < 12) (hi : i < 2 ^ 31) (hn : S.2.2.1.1 = 0) : CW mX7_listed [.ref 41, .int (nI s), .int (nI i)] w (some (.int (-2))) w := by
  obtain ⟨hS, x, mf, lf, E, nl, g, f, hX, hW, hE⟩ := h
  refine cw_of (M := mX7_listed) fx_X7_listed (lv := [.ref 41, .int (nI s), .int (nI i), dmy, dmy, dmy, dmy, dmy, dmy, dmy]) rfl (Nat.le_of_ble_eq_true rfl) ?_
  refine e_iload_n dX7_listed_0 rfl (pn 1 rfl ?_)
  refine c_S1 dX7_listed_1 ml_X7_53 ms_X7_isRegister (by decide) (q_isR w _) rfl rfl (Nat.le_of_ble_eq_true rfl) (pn 4 rfl ?_)
  rw [iR1 hs]
  refine e_if_eq 11 dX7_listed_4 (by decide) (fun c_9 => absurd c_9 (by decide)) (fun _ => pn 7 rfl ?_)
  refine e_iload_n dX7_listed_7 rfl (pn 8 rfl ?_)
  refine e_if_ge 13 dX7_listed_8 (by decide) (fun _ => ?_) (fun c_9 => absurd (nI_pos' hi) c_9)
  refine e_aload_n dX7_listed_13 rfl (pn 14 rfl ?_)
  refine e_get dX7_listed_14 fl_X7_47 hX.1.1 rfl (pn 17 rfl ?_)
  refine e_if_ne 23 dX7_listed_17 (by decide) (fun c_9 => absurd c_9 (fun e => e (by show nI S.2.2.1.1 = 0; rw [hn]; rfl))) (fun _ => pn 20 rfl ?_)
  refine e_bi (-2) dX7_listed_20 (by decide) (pn 22 rfl ?_)
  exact e_iret dX7_listed_22 rfl rfl rfl
theorem EOK.sz {S : St} (hS : SI S) (hn : S.2.2.1.1 ≠ 0) {E : Nat → Int32} (hE : EOK S E) : E 0 = nI (szN S) ∧ szN S ≤ 2 ^ 30 := by
  have hq := hS.1
  have hcd := hS.cD hn 0
  have h16 := hS.n16 hn
  have hm : 0 < S.2.2.1.2.1 := hcd.2.2.1.1
  have R := hE (Nat.pos_of_ne_zero hn) 0 (Nat.zero_le _) 0 0 0 (by omega) hm (by omega)
  unfold Rm at R
  rw [Nat.zero_mod, Nat.sub_zero] at R
  exact ⟨R, wy_le hq (fun e => by show (if S.1 = 2 then 1 else S.1) = 4; rw [if_neg (by omega)]; exact e) h16 _ _ _ _⟩
theorem M_list2 {w : Wd} {S : St} (h : MI w S) {s i : Nat} (hs : s < 12) (hi : i < 2 ^ 31) (hn : S.2.2.1.1 ≠ 0) (hz : szN S ≤ i) : CW mX7_listed [.ref 41, .int (nI s), .int (nI i)] w (some (.int (-4))) w := by
  obtain ⟨hS, x, mf, lf, E, nl, g, f, hX, hW, hE⟩ := h
  obtain ⟨z1, z2⟩ := hE.sz hS hn
  have h16 := hS.n16 hn
  refine cw_of (M := mX7_listed) fx_X7_listed (lv := [.ref 41, .int (nI s), .int (nI i), dmy, dmy, dmy, dmy, dmy, dmy, dmy]) rfl (Nat.le_of_ble_eq_true rfl) ?_
  refine e_iload_n dX7_listed_0 rfl (pn 1 rfl ?_)
  refine c_S1 dX7_listed_1 ml_X7_53 ms_X7_isRegister (by decide) (q_isR w _) rfl rfl (Nat.le_of_ble_eq_true rfl) (pn 4 rfl ?_)
  rw [iR1 hs]
  refine e_if_eq 11 dX7_listed_4 (by decide) (fun c_9 => absurd c_9 (by decide)) (fun _ => pn 7 rfl ?_)
  refine e_iload_n dX7_listed_7 rfl (pn 8 rfl ?_)
  refine e_if_ge 13 dX7_listed_8 (by decide) (fun _ => ?_) (fun c_9 => absurd (nI_pos' hi) c_9)
  refine e_aload_n dX7_listed_13 rfl (pn 14 rfl ?_)
  refine e_get dX7_listed_14 fl_X7_47 hX.1.1 rfl (pn 17 rfl ?_)
  refine e_if_ne 23 dX7_listed_17 (by decide) (fun _ => ?_) (fun c_9 => absurd c_9 (nI_ne0 (Nat.pos_of_ne_zero hn) (show S.2.2.1.1 < 2 ^ 31 by omega)))
  refine e_iload_n dX7_listed_23 rfl (pn 24 rfl ?_)
  refine e_aload_n dX7_listed_24 rfl (pn 25 rfl ?_)
  refine c_V1 dX7_listed_25 ml_X7_103 mv_X7_codeSize (by decide) (q_codeSize hX.1.1 hX.2.1) hX.1.1 rfl rfl (Nat.le_of_ble_eq_true rfl) (pn 28 rfl ?_)
  rw [z1]
  refine e_icmp_lt 34 dX7_listed_28 (by decide) (fun c_9 => absurd c_9 (nI_nlt hz hi)) (fun _ => pn 31 rfl ?_)
  refine e_bi (-4) dX7_listed_31 (by decide) (pn 33 rfl ?_)
  exact e_iret dX7_listed_33 rfl rfl rfl
theorem M_list3 {w : Wd} {S : St} (h : MI w S) {s i : Nat} (hs : s < 12) (hn : S.2.2.1.1 ≠ 0) (hz : i < szN S) : ∃ w2, CW mX7_listed [.ref 41, .int (nI s), .int (nI i)] w (some (.int (nI S.2.2.1.1))) w2 ∧ FM w w2 ∧ MI w2 (sReg S s (wpO S.1 S.2.2.1.1 S.2.2.1.2.1 S.2.2.1.2.2.1 (bNat S) (lmN S) S.2.2.1.1 1 i 0 0 0 [])) := by
  obtain ⟨hS, x, mf, lf, E, nl, g, f, hX, hW, hE⟩ := h
  obtain ⟨z1, z2⟩ := hE.sz hS hn
  have hq := hS.1
  have h16 := hS.n16 hn
  have hm := (hS.cD hn 0).2.2.1
  have hm1 : 1 ≤ S.2.2.1.2.1 := hm.1
  have hm2 : S.2.2.1.2.1 ≤ 64 := hm.2
  obtain ⟨-, hbo⟩ := hS.2.2.1 (Nat.pos_of_ne_zero hn)
  have hlm : lmN S = 1 ∨ lmN S = S.1 := by rcases hbo with ⟨_, _, h⟩ | ⟨_, _, _, h⟩ <;> omega
  have hl0 : 0 < lmN S := by omega
  have h4 : S.1 = 4 → lmN S = 4 := fun e => by show (if S.1 = 2 then 1 else S.1) = 4; rw [if_neg (by omega)]; exact e
  have R := hE (Nat.pos_of_ne_zero hn)
  have hz9 : i < wy S.1 S.2.2.1.2.1 S.2.2.1.2.2.1 (bNat S) (lmN S) S.2.2.1.1 0 0 0 0 := hz
  generalize hbv : bNat S = b at *
  generalize hlv : lmN S = lm at *
  obtain ⟨oL, oM⟩ := wpO_ok S.1 S.2.2.1.1 S.2.2.1.2.1 S.2.2.1.2.2.1 b lm hq.1 S.2.2.1.1 1 i 0 0 0 []
  have oM := oM (fun a ha => by cases ha)
  simp only [List.length_nil, Nat.zero_add] at oL
  generalize hv : wpO S.1 S.2.2.1.1 S.2.2.1.2.1 S.2.2.1.2.2.1 b lm S.2.2.1.1 1 i 0 0 0 [] = v at *
  refine ⟨wA w (va_up mf s (nI v.length)) (wrL lf s v), ?_, hX.FA (FM.rf w) _ _, hS.reg ⟨by omega, oM⟩, x, _, _, E, nl, g, f, hX.sA _ _, hW.put hs (by omega), hE⟩
  have inner : ∀ {r : Option Value} {w' : Wd} (mf2 lf2 : Nat → Int32) (k : Nat), k < S.2.2.1.1 → ∀ (last s2 c : Nat), last < S.1 → s2 < S.2.2.1.2.1 → c < S.1 → ∀ (d l left : Nat), l + d + 1 = S.1 → left < 2 ^ 31 → left + sumN (wpV S.1 S.2.2.1.2.1 S.2.2.1.2.2.1 b lm (S.2.2.1.1 - (k + 1)) (k + 1) last s2 (c % lm)) l < sumN (wpV S.1 S.2.2.1.2.1 S.2.2.1.2.2.1 b lm (S.2.2.1.1 - (k + 1)) (k + 1) last s2 (c % lm)) S.1 → EW mX7_listed none 162 [.ref 41, .int (nI s), .int (nI i), .int (nI (wpL (wpV S.1 S.2.2.1.2.1 S.2.2.1.2.2.1 b lm (S.2.2.1.1 - (k + 1)) (k + 1) last s2 (c % lm)) d l left).2), .int (nI last), .int (nI s2), .int (nI c), .int (nI k), .int (nI (wpL (wpV S.1 S.2.2.1.2.1 S.2.2.1.2.2.1 b lm (S.2.2.1.1 - (k + 1)) (k + 1) last s2 (c % lm)) d l left).1), dmy] [] (wA w mf2 lf2) r w' → EW mX7_listed none 96 [.ref 41, .int (nI s), .int (nI i), .int (nI left), .int (nI last), .int (nI s2), .int (nI c), .int (nI k), .int (nI l), .int (nI (staN (k + 1) l ((s2 + stpN S.1 k last l) % S.2.2.1.2.1) ((c + l) % S.1)))] [] (wA w mf2 lf2) r w' := by
    intro r w' mf2 lf2 k hk last s2 c hla hs2 hc
    have X3 := hX.sA mf2 lf2
    have val : ∀ l, l < S.1 → E (staN (k + 1) l ((s2 + stpN S.1 k last l) % S.2.2.1.2.1) ((c + l) % S.1)) = nI (wpV S.1 S.2.2.1.2.1 S.2.2.1.2.2.1 b lm (S.2.2.1.1 - (k + 1)) (k + 1) last s2 (c % lm) l) ∧ staN (k + 1) l ((s2 + stpN S.1 k last l) % S.2.2.1.2.1) ((c + l) % S.1) < 17408 ∧ wpV S.1 S.2.2.1.2.1 S.2.2.1.2.2.1 b lm (S.2.2.1.1 - (k + 1)) (k + 1) last s2 (c % lm) l ≤ 2 ^ 30 := fun l hl => by
      have m1 := Nat.mod_lt (s2 + stpN S.1 k last l) (show 0 < S.2.2.1.2.1 by omega)
      have m2 := Nat.mod_lt (c + l) (show 0 < S.1 by omega)
      have e := R (k + 1) (by omega) l _ _ hl m1 m2
      unfold Rm at e
      rw [mod_lm hlm, ← sw_st hs2] at e
      refine ⟨?_, by unfold staN; omega, wy_le hq h4 (by omega) _ _ _ _⟩
      rw [← sw_st hs2]
      exact e
    intro d
    induction d with
    | zero =>
      intro l left hl hle hinv K
      obtain ⟨v1, v2, v3⟩ := val l (by omega)
      obtain ⟨-, o2, -⟩ := wpL_ok (wv := wpV S.1 S.2.2.1.2.1 S.2.2.1.2.2.1 b lm (S.2.2.1.1 - (k + 1)) (k + 1) last s2 (c % lm)) (q := S.1) 0 l left hl hinv
      refine e_iload_n dX7_listed_96 rfl (pn 97 rfl ?_)
      refine e_aload_n dX7_listed_97 rfl (pn 98 rfl ?_)
      refine e_get dX7_listed_98 fl_X7_24 X3.1.1 rfl (pn 101 rfl ?_)
      refine e_iload dX7_listed_101 rfl (pn 103 rfl ?_)
      refine e_iald (staN (k + 1) l ((s2 + stpN S.1 k last l) % S.2.2.1.2.1) ((c + l) % S.1)) dX7_listed_103 X3.2.1 rfl v2 (by omega) (pn 104 rfl ?_)
      rw [v1]
      refine e_icmp_lt 162 dX7_listed_104 (by decide) (fun _ => ?_) (fun c_9 => absurd (nI_lt (show left < wpV S.1 S.2.2.1.2.1 S.2.2.1.2.2.1 b lm (S.2.2.1.1 - (k + 1)) (k + 1) last s2 (c % lm) l from o2) (by omega)) c_9)
      exact e_dr [_, _, _, _, _, _, _, _, _, _] 9 rfl K
    | succ d ih =>
      intro l left hl hle hinv K
      obtain ⟨v1, v2, v3⟩ := val l (by omega)
      rw [wpL] at K
      refine e_iload_n dX7_listed_96 rfl (pn 97 rfl ?_)
      refine e_aload_n dX7_listed_97 rfl (pn 98 rfl ?_)
      refine e_get dX7_listed_98 fl_X7_24 X3.1.1 rfl (pn 101 rfl ?_)
      refine e_iload dX7_listed_101 rfl (pn 103 rfl ?_)
      refine e_iald (staN (k + 1) l ((s2 + stpN S.1 k last l) % S.2.2.1.2.1) ((c + l) % S.1)) dX7_listed_103 X3.2.1 rfl v2 (by omega) (pn 104 rfl ?_)
      rw [v1]
      by_cases hc9 : wpV S.1 S.2.2.1.2.1 S.2.2.1.2.2.1 b lm (S.2.2.1.1 - (k + 1)) (k + 1) last s2 (c % lm) l ≤ left
      · rw [if_pos hc9] at K
        refine e_icmp_lt 162 dX7_listed_104 (by decide) (fun c_9 => absurd c_9 (nI_nlt hc9 (by omega))) (fun _ => pn 107 rfl ?_)
        refine e_iload_n dX7_listed_107 rfl (pn 108 rfl ?_)
        refine e_aload_n dX7_listed_108 rfl (pn 109 rfl ?_)
        refine e_get dX7_listed_109 fl_X7_24 X3.1.1 rfl (pn 112 rfl ?_)
        refine e_iload dX7_listed_112 rfl (pn 114 rfl ?_)
        refine e_iald (staN (k + 1) l ((s2 + stpN S.1 k last l) % S.2.2.1.2.1) ((c + l) % S.1)) dX7_listed_114 X3.2.1 rfl v2 (by omega) (pn 115 rfl ?_)
        refine e_isub dX7_listed_115 (pn 116 rfl ?_)
        rw [v1, pk_sub hc9]
        refine s_in [_, _, _, _, _, _, _, _, _, _] dX7_listed_116 (Nat.le_of_ble_eq_true rfl) rfl (pn 117 rfl ?_)
        refine s_inc [_, _, _, _, _, _, _, _, _, _] (1) dX7_listed_117 (by decide) rfl (Nat.le_of_ble_eq_true rfl) rfl (pn 120 rfl ?_)
        refine e_iload dX7_listed_120 rfl (pn 122 rfl ?_)
        refine e_ic (1) dX7_listed_122 (by decide) (pn 123 rfl ?_)
        refine e_iadd dX7_listed_123 (pn 124 rfl ?_)
        refine e_iload dX7_listed_124 rfl (pn 126 rfl ?_)
        refine e_iload dX7_listed_126 rfl (pn 128 rfl ?_)
        refine e_aload_n dX7_listed_128 rfl (pn 129 rfl ?_)
        refine e_iload dX7_listed_129 rfl (pn 131 rfl ?_)
        refine e_iload dX7_listed_131 rfl (pn 133 rfl ?_)
        refine e_iload dX7_listed_133 rfl (pn 135 rfl ?_)
        rw [nI_1, nI_1]
        have st := stp_le (q := S.1) (i := k) (last := last) (l := l + 1) (by omega) (by omega)
        refine c_V1 dX7_listed_135 ml_X7_88 mv_X7_step (by decide) (q_step X3.1.1 hq.2 (i := k) (last := last) (l := l + 1) (by omega) (by omega) (by omega)) X3.1.1 rfl rfl (Nat.le_of_ble_eq_true rfl) (pn 138 rfl ?_)
        refine e_iadd dX7_listed_138 (pn 139 rfl ?_)
        refine e_aload_n dX7_listed_139 rfl (pn 140 rfl ?_)
        refine e_get dX7_listed_140 fl_X7_76 X3.1.1 rfl (pn 143 rfl ?_)
        rw [nI_add]
        refine e_irem dX7_listed_143 (nI_ne0 (show 0 < S.2.2.1.2.1 by omega) (show S.2.2.1.2.1 < 2 ^ 31 by omega)) (pn 144 rfl ?_)
        rw [show nI (s2 + stpN (mdS S x).1 k last (l + 1)) - nI (s2 + stpN (mdS S x).1 k last (l + 1)) / nI (mdS S x).2.2.1 * nI (mdS S x).2.2.1 = nI ((s2 + stpN S.1 k last (l + 1)) % S.2.2.1.2.1) from pk_rem (show s2 + stpN S.1 k last (l + 1) < 2 ^ 31 by omega) (show 0 < S.2.2.1.2.1 by omega) (show S.2.2.1.2.1 < 2 ^ 31 by omega)]
        refine e_iload dX7_listed_144 rfl (pn 146 rfl ?_)
        refine e_iload dX7_listed_146 rfl (pn 148 rfl ?_)
        refine e_iadd dX7_listed_148 (pn 149 rfl ?_)
        refine e_aload_n dX7_listed_149 rfl (pn 150 rfl ?_)
        refine e_get dX7_listed_150 fl_X7_7 X3.1.1 rfl (pn 153 rfl ?_)
        rw [nI_add]
        refine e_irem dX7_listed_153 (nI_ne0 (show 0 < S.1 by omega) (show S.1 < 2 ^ 31 by omega)) (pn 154 rfl ?_)
        rw [show nI (c + (l + 1)) - nI (c + (l + 1)) / nI (mdS S x).1 * nI (mdS S x).1 = nI ((c + (l + 1)) % S.1) from pk_rem (by omega) (show 0 < S.1 by omega) (show S.1 < 2 ^ 31 by omega)]
        refine c_S1 dX7_listed_154 ml_X7_92 ms_X7_state (by decide) (q_state _ (k + 1) (l + 1) _ _) rfl rfl (Nat.le_of_ble_eq_true rfl) (pn 157 rfl ?_)
        refine s_i [_, _, _, _, _, _, _, _, _, _] dX7_listed_157 (Nat.le_of_ble_eq_true rfl) rfl (pn 159 rfl ?_)
        refine e_goto 96 dX7_listed_159 (by decide) ?_
        exact ih (l + 1) _ (by omega) (by omega) (by rw [sumN]; omega) K
      · rw [if_neg hc9] at K
        refine e_icmp_lt 162 dX7_listed_104 (by decide) (fun _ => ?_) (fun c_9 => absurd (nI_lt (by omega) (by omega)) c_9)
        exact e_dr [_, _, _, _, _, _, _, _, _, _] 9 rfl K
  have outer : ∀ (e k left last s2 c : Nat) (acc : List Nat), k + e = S.2.2.1.1 → last < S.1 → s2 < S.2.2.1.2.1 → c < S.1 → acc.length = k → left < wy S.1 S.2.2.1.2.1 S.2.2.1.2.2.1 b lm e k last s2 (c % lm) → wpO S.1 S.2.2.1.1 S.2.2.1.2.1 S.2.2.1.2.2.1 b lm e (k + 1) left last s2 (c % lm) acc = v → EW mX7_listed none 55 [.ref 41, .int (nI s), .int (nI i), .int (nI left), .int (nI last), .int (nI s2), .int (nI c), .int (nI k), dmy, dmy] [] (wA w (va_up mf s (nI acc.length)) (wrL lf s acc)) (some (.int (nI S.2.2.1.1))) (wA w (va_up mf s (nI v.length)) (wrL lf s v)) := by
    intro e
    induction e with
    | zero =>
      intro k left last s2 c acc hk hla hs2 hc hac hle hend
      have X3 := hX.sA (va_up mf s (nI acc.length)) (wrL lf s acc)
      have hend : acc = v := hend
      subst hend
      refine e_iload dX7_listed_55 rfl (pn 57 rfl ?_)
      refine e_aload_n dX7_listed_57 rfl (pn 58 rfl ?_)
      refine e_get dX7_listed_58 fl_X7_47 X3.1.1 rfl (pn 61 rfl ?_)
      refine e_icmp_ge 211 dX7_listed_61 (by decide) (fun _ => ?_) (fun c_9 => absurd (nI_le (show S.2.2.1.1 ≤ k by omega) (by omega)) c_9)
      refine e_aload_n dX7_listed_211 rfl (pn 212 rfl ?_)
      refine e_get dX7_listed_212 fl_X7_47 X3.1.1 rfl (pn 215 rfl ?_)
      exact e_iret dX7_listed_215 rfl rfl rfl
    | succ e ih =>
      intro k left last s2 c acc hk hla hs2 hc hac hle hend
      have X3 := hX.sA (va_up mf s (nI acc.length)) (wrL lf s acc)
      have hb9 := wy_le (q := S.1) (m := S.2.2.1.2.1) (a := S.2.2.1.2.2.1) (b := b) (lm := lm) hq h4 (show e + 1 ≤ 16 by omega) k last s2 (c % lm)
      have hsum : wy S.1 S.2.2.1.2.1 S.2.2.1.2.2.1 b lm (e + 1) k last s2 (c % lm) = sumN (wpV S.1 S.2.2.1.2.1 S.2.2.1.2.2.1 b lm (S.2.2.1.1 - (k + 1)) (k + 1) last s2 (c % lm)) S.1 := by
        rw [wy_s, show S.2.2.1.1 - (k + 1) = e by omega]
        rfl
      rw [hsum] at hle
      have hinv : left + sumN (wpV S.1 S.2.2.1.2.1 S.2.2.1.2.2.1 b lm (S.2.2.1.1 - (k + 1)) (k + 1) last s2 (c % lm)) 0 < sumN (wpV S.1 S.2.2.1.2.1 S.2.2.1.2.2.1 b lm (S.2.2.1.1 - (k + 1)) (k + 1) last s2 (c % lm)) S.1 := hle
      obtain ⟨o1, o2, o3⟩ := wpL_ok (wv := wpV S.1 S.2.2.1.2.1 S.2.2.1.2.2.1 b lm (S.2.2.1.1 - (k + 1)) (k + 1) last s2 (c % lm)) (q := S.1) (S.1 - 1) 0 left (by omega) hinv
      have IN := inner (r := some (.int (nI S.2.2.1.1))) (w' := wA w (va_up mf s (nI v.length)) (wrL lf s v)) (va_up mf s (nI acc.length)) (wrL lf s acc) k (by omega) last s2 c hla hs2 hc (S.1 - 1) 0 left (by omega) (by omega) hinv
      rw [wpO, show e = S.2.2.1.1 - (k + 1) by omega] at hend
      generalize hXv : wpL (wpV S.1 S.2.2.1.2.1 S.2.2.1.2.2.1 b lm (S.2.2.1.1 - (k + 1)) (k + 1) last s2 (c % lm)) (S.1 - 1) 0 left = XX at *
      rw [show (c + 0) % S.1 = c from Nat.mod_eq_of_lt hc] at IN
      have st0 := stp_le (q := S.1) (i := k) (last := last) (l := 0) (by omega) (by omega)
      have st1 := stp_le (q := S.1) (i := k) (last := last) (l := XX.1) (by omega) (by omega)
      refine e_iload dX7_listed_55 rfl (pn 57 rfl ?_)
      refine e_aload_n dX7_listed_57 rfl (pn 58 rfl ?_)
      refine e_get dX7_listed_58 fl_X7_47 X3.1.1 rfl (pn 61 rfl ?_)
      refine e_icmp_ge 211 dX7_listed_61 (by decide) (fun c_9 => absurd c_9 (nI_ge (show k < S.2.2.1.1 by omega) (show S.2.2.1.1 < 2 ^ 31 by omega))) (fun _ => pn 64 rfl ?_)
      refine e_ic (0) dX7_listed_64 (by decide) (pn 65 rfl ?_)
      refine s_i [_, _, _, _, _, _, _, _, _, _] dX7_listed_65 (Nat.le_of_ble_eq_true rfl) rfl (pn 67 rfl ?_)
      refine e_iload dX7_listed_67 rfl (pn 69 rfl ?_)
      refine e_ic (1) dX7_listed_69 (by decide) (pn 70 rfl ?_)
      refine e_iadd dX7_listed_70 (pn 71 rfl ?_)
      refine e_ic (0) dX7_listed_71 (by decide) (pn 72 rfl ?_)
      rw [nI_1]
      refine e_iload dX7_listed_72 rfl (pn 74 rfl ?_)
      refine e_aload_n dX7_listed_74 rfl (pn 75 rfl ?_)
      refine e_iload dX7_listed_75 rfl (pn 77 rfl ?_)
      refine e_iload dX7_listed_77 rfl (pn 79 rfl ?_)
      refine e_ic (0) dX7_listed_79 (by decide) (pn 80 rfl ?_)
      refine c_V1 dX7_listed_80 ml_X7_88 mv_X7_step (by decide) (q_step X3.1.1 hq.2 (i := k) (last := last) (l := 0) (by omega) (by omega) (by omega)) X3.1.1 rfl rfl (Nat.le_of_ble_eq_true rfl) (pn 83 rfl ?_)
      refine e_iadd dX7_listed_83 (pn 84 rfl ?_)
      refine e_aload_n dX7_listed_84 rfl (pn 85 rfl ?_)
      refine e_get dX7_listed_85 fl_X7_76 X3.1.1 rfl (pn 88 rfl ?_)
      rw [nI_add]
      refine e_irem dX7_listed_88 (nI_ne0 (show 0 < S.2.2.1.2.1 by omega) (show S.2.2.1.2.1 < 2 ^ 31 by omega)) (pn 89 rfl ?_)
      rw [show nI (s2 + stpN (mdS S x).1 k last 0) - nI (s2 + stpN (mdS S x).1 k last 0) / nI (mdS S x).2.2.1 * nI (mdS S x).2.2.1 = nI ((s2 + stpN S.1 k last 0) % S.2.2.1.2.1) from pk_rem (show s2 + stpN S.1 k last 0 < 2 ^ 31 by omega) (show 0 < S.2.2.1.2.1 by omega) (show S.2.2.1.2.1 < 2 ^ 31 by omega)]
      refine e_iload dX7_listed_89 rfl (pn 91 rfl ?_)
      refine c_S1 dX7_listed_91 ml_X7_92 ms_X7_state (by decide) (q_state _ (k + 1) 0 _ c) rfl rfl (Nat.le_of_ble_eq_true rfl) (pn 94 rfl ?_)
      refine s_i [_, _, _, _, _, _, _, _, _, _] dX7_listed_94 (Nat.le_of_ble_eq_true rfl) rfl (pn 96 rfl ?_)
      refine IN ?_
      refine e_aload_n dX7_listed_162 rfl (pn 163 rfl ?_)
      refine e_iload_n dX7_listed_163 rfl (pn 164 rfl ?_)
      refine e_iload dX7_listed_164 rfl (pn 166 rfl ?_)
      refine c_V0 dX7_listed_166 ml_X7_61 mv_X7_puts (by decide) (q_put hX.1 (s := s) (by omega) (v := acc) (by omega) XX.1) X3.1.1 rfl rfl (Nat.le_of_ble_eq_true rfl) (pn 169 rfl ?_)
      have X4 := hX.sA (va_up mf s (nI (acc ++ [XX.1]).length)) (wrL lf s (acc ++ [XX.1]))
      refine e_iload dX7_listed_169 rfl (pn 171 rfl ?_)
      refine e_aload_n dX7_listed_171 rfl (pn 172 rfl ?_)
      refine e_iload dX7_listed_172 rfl (pn 174 rfl ?_)
      refine e_iload dX7_listed_174 rfl (pn 176 rfl ?_)
      refine e_iload dX7_listed_176 rfl (pn 178 rfl ?_)
      refine c_V1 dX7_listed_178 ml_X7_88 mv_X7_step (by decide) (q_step X4.1.1 hq.2 (i := k) (last := last) (l := XX.1) (by omega) (by omega) (by omega)) X4.1.1 rfl rfl (Nat.le_of_ble_eq_true rfl) (pn 181 rfl ?_)
      refine e_iadd dX7_listed_181 (pn 182 rfl ?_)
      refine e_aload_n dX7_listed_182 rfl (pn 183 rfl ?_)
      refine e_get dX7_listed_183 fl_X7_76 X4.1.1 rfl (pn 186 rfl ?_)
      rw [nI_add]
      refine e_irem dX7_listed_186 (nI_ne0 (show 0 < S.2.2.1.2.1 by omega) (show S.2.2.1.2.1 < 2 ^ 31 by omega)) (pn 187 rfl ?_)
      rw [show nI (s2 + stpN (mdS S x).1 k last XX.1) - nI (s2 + stpN (mdS S x).1 k last XX.1) / nI (mdS S x).2.2.1 * nI (mdS S x).2.2.1 = nI ((s2 + stpN S.1 k last XX.1) % S.2.2.1.2.1) from pk_rem (show s2 + stpN S.1 k last XX.1 < 2 ^ 31 by omega) (show 0 < S.2.2.1.2.1 by omega) (show S.2.2.1.2.1 < 2 ^ 31 by omega)]
      refine s_i [_, _, _, _, _, _, _, _, _, _] dX7_listed_187 (Nat.le_of_ble_eq_true rfl) rfl (pn 189 rfl ?_)
      refine e_iload dX7_listed_189 rfl (pn 191 rfl ?_)
      refine e_iload dX7_listed_191 rfl (pn 193 rfl ?_)
      refine e_iadd dX7_listed_193 (pn 194 rfl ?_)
      refine e_aload_n dX7_listed_194 rfl (pn 195 rfl ?_)
      refine e_get dX7_listed_195 fl_X7_7 X4.1.1 rfl (pn 198 rfl ?_)
      rw [nI_add]
      refine e_irem dX7_listed_198 (nI_ne0 (show 0 < S.1 by omega) (show S.1 < 2 ^ 31 by omega)) (pn 199 rfl ?_)
      rw [show nI (c + XX.1) - nI (c + XX.1) / nI (mdS S x).1 * nI (mdS S x).1 = nI ((c + XX.1) % S.1) from pk_rem (by omega) (show 0 < S.1 by omega) (show S.1 < 2 ^ 31 by omega)]
      refine s_i [_, _, _, _, _, _, _, _, _, _] dX7_listed_199 (Nat.le_of_ble_eq_true rfl) rfl (pn 201 rfl ?_)
      refine e_iload dX7_listed_201 rfl (pn 203 rfl ?_)
      refine s_i [_, _, _, _, _, _, _, _, _, _] dX7_listed_203 (Nat.le_of_ble_eq_true rfl) rfl (pn 205 rfl ?_)
      refine s_inc [_, _, _, _, _, _, _, _, _, _] (1) dX7_listed_205 (by decide) rfl (Nat.le_of_ble_eq_true rfl) rfl (pn 208 rfl ?_)
      refine e_goto 55 dX7_listed_208 (by decide) ?_
      rw [nI_1]
      refine e_dr [_, _, _, _, _, _, _, _, _, _] 8 rfl ?_
      refine ih (k + 1) _ _ _ _ _ (by omega) o1 (Nat.mod_lt _ (by omega)) (Nat.mod_lt _ (by omega)) (by simp; omega) ?_ ?_
      · rw [mod_lm hlm, ← sw_st hs2]
        have : e = S.2.2.1.1 - (k + 1) := by omega
        rw [this]
        exact o2
      · rw [mod_lm hlm, ← sw_st hs2]
        have : e = S.2.2.1.1 - (k + 1) := by omega
        rw [this]
        exact hend
  refine cw_of (M := mX7_listed) fx_X7_listed (lv := [.ref 41, .int (nI s), .int (nI i), dmy, dmy, dmy, dmy, dmy, dmy, dmy]) rfl (Nat.le_of_ble_eq_true rfl) ?_
  refine e_iload_n dX7_listed_0 rfl (pn 1 rfl ?_)
  refine c_S1 dX7_listed_1 ml_X7_53 ms_X7_isRegister (by decide) (q_isR w _) rfl rfl (Nat.le_of_ble_eq_true rfl) (pn 4 rfl ?_)
  rw [iR1 hs]
  refine e_if_eq 11 dX7_listed_4 (by decide) (fun c_9 => absurd c_9 (by decide)) (fun _ => pn 7 rfl ?_)
  refine e_iload_n dX7_listed_7 rfl (pn 8 rfl ?_)
  refine e_if_ge 13 dX7_listed_8 (by decide) (fun _ => ?_) (fun c_9 => absurd (nI_pos' (by omega)) c_9)
  refine e_aload_n dX7_listed_13 rfl (pn 14 rfl ?_)
  refine e_get dX7_listed_14 fl_X7_47 hX.1.1 rfl (pn 17 rfl ?_)
  refine e_if_ne 23 dX7_listed_17 (by decide) (fun _ => ?_) (fun c_9 => absurd c_9 (nI_ne0 (Nat.pos_of_ne_zero hn) (show S.2.2.1.1 < 2 ^ 31 by omega)))
  refine e_iload_n dX7_listed_23 rfl (pn 24 rfl ?_)
  refine e_aload_n dX7_listed_24 rfl (pn 25 rfl ?_)
  refine c_V1 dX7_listed_25 ml_X7_103 mv_X7_codeSize (by decide) (q_codeSize hX.1.1 hX.2.1) hX.1.1 rfl rfl (Nat.le_of_ble_eq_true rfl) (pn 28 rfl ?_)
  rw [z1]
  refine e_icmp_lt 34 dX7_listed_28 (by decide) (fun _ => ?_) (fun c_9 => absurd (nI_lt hz (by omega)) c_9)
  refine e_iload_n dX7_listed_34 rfl (pn 35 rfl ?_)
  refine s_in [_, _, _, _, _, _, _, _, _, _] dX7_listed_35 (Nat.le_of_ble_eq_true rfl) rfl (pn 36 rfl ?_)
  refine e_ic (0) dX7_listed_36 (by decide) (pn 37 rfl ?_)
  refine s_i [_, _, _, _, _, _, _, _, _, _] dX7_listed_37 (Nat.le_of_ble_eq_true rfl) rfl (pn 39 rfl ?_)
  refine e_ic (0) dX7_listed_39 (by decide) (pn 40 rfl ?_)
  refine s_i [_, _, _, _, _, _, _, _, _, _] dX7_listed_40 (Nat.le_of_ble_eq_true rfl) rfl (pn 42 rfl ?_)
  refine e_ic (0) dX7_listed_42 (by decide) (pn 43 rfl ?_)
  refine s_i [_, _, _, _, _, _, _, _, _, _] dX7_listed_43 (Nat.le_of_ble_eq_true rfl) rfl (pn 45 rfl ?_)
  refine e_aload_n dX7_listed_45 rfl (pn 46 rfl ?_)
  refine e_get dX7_listed_46 fl_X7_13 hX.1.1 rfl (pn 49 rfl ?_)
  refine e_iload_n dX7_listed_49 rfl (pn 50 rfl ?_)
  refine e_ic (0) dX7_listed_50 (by decide) (pn 51 rfl ?_)
  refine e_iast (s) dX7_listed_51 hX.1.2.1 rfl (by omega) (by omega) (pn 52 rfl ?_)
  refine e_ic (0) dX7_listed_52 (by decide) (pn 53 rfl ?_)
  refine s_i [_, _, _, _, _, _, _, _, _, _] dX7_listed_53 (Nat.le_of_ble_eq_true rfl) rfl (pn 55 rfl ?_)
  have L := outer S.2.2.1.1 0 i 0 0 0 [] (by omega) (by omega) (by omega) (by omega) rfl (by rw [Nat.zero_mod]; exact hz9) (by rw [Nat.zero_mod]; exact hv)
  rw [wrL_nil] at L
  refine pw ?_ L
  show w.set 42 _ = (w.set 42 _).set 43 _
  rw [set_id (w := w.set 42 _) (gne (by decide) hX.1.2.2)]
  rfl
