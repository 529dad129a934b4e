/-! code -/
theorem X_code0 {w : Wd} {S : St} (hS : SI S) (h : XI w S) {n m a b : Int32} (hb : ¬ kN S.1 n m a b) : CW mX6_code [.ref 1, .int n, .int m, .int a, .int b] w (some (.int (-1))) w := by
  have hq := hS.1
  have f60 : ∀ x : Value, EW mX6_code none 60 [.ref 1, .int n, .int m, .int a, .int b, x] [] w (some (.int (-1))) w := by
    intro x
    refine e_ic (-1) dX6_code_60 (by decide) (pn 61 rfl ?_)
    exact e_iret dX6_code_61 rfl rfl rfl
  have f35 : EW mX6_code none 35 [.ref 1, .int n, .int m, .int a, .int b, dmy] [] w (some (.int (-1))) w := by
    refine e_ic (0) dX6_code_35 (by decide) (pn 36 rfl ?_)
    refine s_i [_, _, _, _, _, _] dX6_code_36 (Nat.le_of_ble_eq_true rfl) rfl (pn 38 rfl ?_)
    refine e_iload dX6_code_38 rfl (pn 40 rfl ?_)
    refine e_if_eq 60 dX6_code_40 (by decide) (fun _ => ?_) (fun c_9 => absurd (by decide) c_9)
    exact f60 _
  refine cw_of (M := mX6_code) fx_X6_code (lv := [.ref 1, .int n, .int m, .int a, .int b, dmy]) rfl (Nat.le_of_ble_eq_true rfl) ?_
  refine e_iload_n dX6_code_0 rfl (pn 1 rfl ?_)
  refine e_ic (1) dX6_code_1 (by decide) (pn 2 rfl ?_)
  refine e_icmp_lt 35 dX6_code_2 (by decide) (fun c2 => ?_) (fun c2 => pn 5 rfl ?_)
  · exact f35
  · refine e_iload_n dX6_code_5 rfl (pn 6 rfl ?_)
    refine e_bi (16) dX6_code_6 (by decide) (pn 8 rfl ?_)
    refine e_icmp_gt 35 dX6_code_8 (by decide) (fun c8 => ?_) (fun c8 => pn 11 rfl ?_)
    · exact f35
    · refine e_iload_n dX6_code_11 rfl (pn 12 rfl ?_)
      refine e_ic (1) dX6_code_12 (by decide) (pn 13 rfl ?_)
      refine e_icmp_lt 35 dX6_code_13 (by decide) (fun c13 => ?_) (fun c13 => pn 16 rfl ?_)
      · exact f35
      · refine e_iload_n dX6_code_16 rfl (pn 17 rfl ?_)
        refine e_bi (64) dX6_code_17 (by decide) (pn 19 rfl ?_)
        refine e_icmp_gt 35 dX6_code_19 (by decide) (fun c19 => ?_) (fun c19 => pn 22 rfl ?_)
        · exact f35
        · refine e_iload_n dX6_code_22 rfl (pn 23 rfl ?_)
          refine e_if_lt 35 dX6_code_23 (by decide) (fun c23 => ?_) (fun c23 => pn 26 rfl ?_)
          · exact f35
          · refine e_iload_n dX6_code_26 rfl (pn 27 rfl ?_)
            refine e_iload_n dX6_code_27 rfl (pn 28 rfl ?_)
            refine e_icmp_ge 35 dX6_code_28 (by decide) (fun c28 => ?_) (fun c28 => pn 31 rfl ?_)
            · exact f35
            · have h1 : 1 ≤ n ∧ n ≤ 16 := ⟨by rw [fa_lt] at c2; rw [fa_le]; omega, by rw [fa_lt] at c8; rw [fa_le]; omega⟩
              have h2 : 1 ≤ m ∧ m ≤ 64 := ⟨by rw [fa_lt] at c13; rw [fa_le]; omega, by rw [fa_lt] at c19; rw [fa_le]; omega⟩
              have h3 : 0 ≤ a ∧ a ≤ m - 1 := by
                obtain ⟨m', hm', rfl⟩ := i_nat (a := 1) (b := 64) (by decide) h2.1 h2.2 (by decide)
                refine ⟨by rw [fa_lt] at c23; rw [fa_le]; omega, ?_⟩
                rw [show nI m' - 1 = nI (m' - 1) from pk_sub (b := 1) hm'.1, fa_le, nI_toInt (by omega)]
                rw [fa_le, nI_toInt (by omega)] at c28
                omega
              refine e_ic (1) dX6_code_31 (by decide) (pn 32 rfl ?_)
              refine e_goto 36 dX6_code_32 (by decide) ?_
              refine s_i [_, _, _, _, _, _] dX6_code_36 (Nat.le_of_ble_eq_true rfl) rfl (pn 38 rfl ?_)
              refine e_iload dX6_code_38 rfl (pn 40 rfl ?_)
              refine e_if_eq 60 dX6_code_40 (by decide) (fun c_9 => absurd c_9 (by decide)) (fun _ => pn 43 rfl ?_)
              refine e_aload_n dX6_code_43 rfl (pn 44 rfl ?_)
              refine e_get dX6_code_44 fl_X6_9 h.1.1 rfl (pn 47 rfl ?_)
              refine e_ic (2) dX6_code_47 (by decide) (pn 48 rfl ?_)
              by_cases h4 : S.1 = 2
              · exact absurd (kN_to hq h1 h2 h3 (Or.inl h4)) hb
              · have L := x_isL h.1.1 hq b
                rw [if_neg (fun e => hb (kN_to hq h1 h2 h3 (Or.inr e)))] at L
                refine e_icmp_eq 62 dX6_code_48 (by decide) (fun c_9 => absurd c_9 (fun e => h4 ((nI_eq (b := 2) (by omega) (by decide)).mp e))) (fun _ => pn 51 rfl ?_)
                refine e_aload_n dX6_code_51 rfl (pn 52 rfl ?_)
                refine e_iload dX6_code_52 rfl (pn 54 rfl ?_)
                refine c_V1 dX6_code_54 ml_X6_104 mv_X6_isLetter (by decide) L h.1.1 rfl rfl (Nat.le_of_ble_eq_true rfl) (pn 57 rfl ?_)
                refine e_if_ne 62 dX6_code_57 (by decide) (fun c_9 => absurd c_9 (by decide)) (fun _ => pn 60 rfl ?_)
                exact f60 _
theorem X_codeG {w : Wd} {S : St} (hS : SI S) (h : XI w S) {n m a : Nat} {b : Int32} (hn : 1 ≤ n ∧ n ≤ 16) (hm : 1 ≤ m ∧ m ≤ 64) (ha : a < m) (hb : S.1 = 2 ∨ ∃ b' : Nat, b' < S.1 ∧ b = nI b') {r : Option Value} {w' : Wd} (K : EW mX6_code none 62 [.ref 1, .int (nI n), .int (nI m), .int (nI a), .int b, .int 1] [] w r w') : CW mX6_code [.ref 1, .int (nI n), .int (nI m), .int (nI a), .int b] w r w' := by
  have hq := hS.1
  refine cw_of (M := mX6_code) fx_X6_code (lv := [.ref 1, .int (nI n), .int (nI m), .int (nI a), .int b, dmy]) rfl (Nat.le_of_ble_eq_true rfl) ?_
  refine e_iload_n dX6_code_0 rfl (pn 1 rfl ?_)
  refine e_ic (1) dX6_code_1 (by decide) (pn 2 rfl ?_)
  refine e_icmp_lt 35 dX6_code_2 (by decide) (fun c_9 => absurd c_9 (nI_nlt (b := 1) hn.1 (by omega))) (fun _ => pn 5 rfl ?_)
  refine e_iload_n dX6_code_5 rfl (pn 6 rfl ?_)
  refine e_bi (16) dX6_code_6 (by decide) (pn 8 rfl ?_)
  refine e_icmp_gt 35 dX6_code_8 (by decide) (fun c_9 => absurd c_9 (nI_nlt (a := 16) hn.2 (by omega))) (fun _ => pn 11 rfl ?_)
  refine e_iload_n dX6_code_11 rfl (pn 12 rfl ?_)
  refine e_ic (1) dX6_code_12 (by decide) (pn 13 rfl ?_)
  refine e_icmp_lt 35 dX6_code_13 (by decide) (fun c_9 => absurd c_9 (nI_nlt (b := 1) hm.1 (by omega))) (fun _ => pn 16 rfl ?_)
  refine e_iload_n dX6_code_16 rfl (pn 17 rfl ?_)
  refine e_bi (64) dX6_code_17 (by decide) (pn 19 rfl ?_)
  refine e_icmp_gt 35 dX6_code_19 (by decide) (fun c_9 => absurd c_9 (nI_nlt (a := 64) hm.2 (by omega))) (fun _ => pn 22 rfl ?_)
  refine e_iload_n dX6_code_22 rfl (pn 23 rfl ?_)
  refine e_if_lt 35 dX6_code_23 (by decide) (fun c_9 => absurd c_9 (nI_pos (by omega))) (fun _ => pn 26 rfl ?_)
  refine e_iload_n dX6_code_26 rfl (pn 27 rfl ?_)
  refine e_iload_n dX6_code_27 rfl (pn 28 rfl ?_)
  refine e_icmp_ge 35 dX6_code_28 (by decide) (fun c_9 => absurd c_9 (nI_ge ha (by omega))) (fun _ => pn 31 rfl ?_)
  refine e_ic (1) dX6_code_31 (by decide) (pn 32 rfl ?_)
  refine e_goto 36 dX6_code_32 (by decide) ?_
  refine s_i [_, _, _, _, _, _] dX6_code_36 (Nat.le_of_ble_eq_true rfl) rfl (pn 38 rfl ?_)
  refine e_iload dX6_code_38 rfl (pn 40 rfl ?_)
  refine e_if_eq 60 dX6_code_40 (by decide) (fun c_9 => absurd c_9 (by decide)) (fun _ => pn 43 rfl ?_)
  refine e_aload_n dX6_code_43 rfl (pn 44 rfl ?_)
  refine e_get dX6_code_44 fl_X6_9 h.1.1 rfl (pn 47 rfl ?_)
  refine e_ic (2) dX6_code_47 (by decide) (pn 48 rfl ?_)
  by_cases h4 : S.1 = 2
  · refine e_icmp_eq 62 dX6_code_48 (by decide) (fun _ => ?_) (fun c_9 => absurd (by rw [h4]; rfl) c_9)
    exact K
  · obtain ⟨b', hb1, rfl⟩ := hb.resolve_left h4
    have L := x_isLn h.1.1 hq (l := b') (by omega)
    rw [if_pos hb1] at L
    refine e_icmp_eq 62 dX6_code_48 (by decide) (fun c_9 => absurd c_9 (fun e => h4 ((nI_eq (b := 2) (by omega) (by decide)).mp e))) (fun _ => pn 51 rfl ?_)
    refine e_aload_n dX6_code_51 rfl (pn 52 rfl ?_)
    refine e_iload dX6_code_52 rfl (pn 54 rfl ?_)
    refine c_V1 dX6_code_54 ml_X6_104 mv_X6_isLetter (by decide) L h.1.1 rfl rfl (Nat.le_of_ble_eq_true rfl) (pn 57 rfl ?_)
    refine e_if_ne 62 dX6_code_57 (by decide) (fun _ => ?_) (fun c_9 => absurd c_9 (by decide))
    exact K
theorem mrN_2 {c len : Nat} (hc : c ≤ 15360) : mrN c len = 15360 ∨ 2 * len ≤ mrN c len := by
  unfold mrN
  by_cases h : 15360 < 2 * len
  · rw [if_pos h]
    split <;> omega
  · rw [if_neg h]
    split <;> omega
theorem X_code1 {w : Wd} {S : St} (hS : SI S) (h : XI w S) {n m a : Nat} {b : Int32} (hn : 1 ≤ n ∧ n ≤ 16) (hm : 1 ≤ m ∧ m ≤ 64) (ha : a < m) (hb : S.1 = 2 ∨ ∃ b' : Nat, b' < S.1 ∧ b = nI b') : ∃ w1, CW mX6_code [.ref 1, .int (nI n), .int (nI m), .int (nI a), .int b] w (some (.int (nI (szN (sCd S (n, m, a, b)))))) w1 ∧ FX w w1 ∧ XI w1 (sCd S (n, m, a, b)) := by
  have S2 := hS.cd hn hm ha hb
  have hP := S2.cP (show n ≠ 0 by omega)
  have hbk : bOK S.1 b (bNat (sCd S (n, m, a, b))) (lmN (sCd S (n, m, a, b))) := (S2.2.2.1 (show 0 < n by omega)).2
  have hP : cP S.1 n m a (bNat (sCd S (n, m, a, b))) (lmN (sCd S (n, m, a, b))) := hP
  have hlm : lmN (sCd S (n, m, a, b)) = if S.1 = 2 then 1 else S.1 := rfl
  have hsz : szN (sCd S (n, m, a, b)) = wy S.1 m a (bNat (sCd S (n, m, a, b))) (lmN (sCd S (n, m, a, b))) n 0 0 0 0 := rfl
  have goal : ∀ w1, (∀ bN lm, bNat (sCd S (n, m, a, b)) = bN → lmN (sCd S (n, m, a, b)) = lm → XC w1 (sCd S (n, m, a, b))) → XC w1 (sCd S (n, m, a, b)) := fun w1 k => k _ _ rfl rfl
  clear goal
  obtain ⟨hA, ⟨wr, len, f, used, c1, c2, c3, ⟨⟨v16, h16⟩, ⟨v17, h17⟩⟩, c6, ⟨q0, m0, a0, b0, lm0, sz0, c7⟩, -⟩, hPp, hQ, hT, hL⟩ := id h
  have xc : ∀ (w1 : Wd) (wr len : Nat) (f : Nat → Int32) (used : Nat), (wr = 18 ∨ 48 ≤ wr) → w1[wr]? = some (aI len f) → len ≤ 15360 → ((∃ v, w1[16]? = some (rowW v)) ∧ ∃ v, w1[17]? = some (rowW v)) → ((used ≤ 2 * len ∨ len = 15360) ∧ used ≤ 46080 ∧ w1.length ≤ 48 + used ∧ tot w1 ≤ 40000 + used ∧ 48 ≤ w1.length) → w1[15]? = some (cdF wr S.1 n m a (bNat (sCd S (n, m, a, b))) (lmN (sCd S (n, m, a, b))) (nI (szN (sCd S (n, m, a, b))))) → ceC S.1 n m (lmN (sCd S (n, m, a, b))) ≤ len → (∀ p, 1 ≤ p → RO S.1 n m a (bNat (sCd S (n, m, a, b))) (lmN (sCd S (n, m, a, b))) f p) → XC w1 (sCd S (n, m, a, b)) := fun w1 wr len f used x1 x2 x3 x4 x5 x6 x7 x8 => ⟨wr, len, f, used, x1, x2, x3, x4, x5, ⟨_, _, _, _, _, _, x6⟩, fun _ => ⟨x6, x7, x8⟩⟩
  rw [hsz] at xc ⊢
  generalize bNat (sCd S (n, m, a, b)) = bN at *
  generalize lmN (sCd S (n, m, a, b)) = lm at *
  have hbA : (if S.1 = 2 then (0 : Int32) else b) = nI bN := by
    rcases hbk with ⟨e1, e2, -⟩ | ⟨e1, e2, -⟩
    · rw [if_pos e1, e2]; rfl
    · rw [if_neg e1]; exact e2
  have lt15 : 15 < w.length := (List.getElem?_eq_some_iff.mp c7).1
  by_cases hc : ceC S.1 n m lm ≤ len
  · have T := d_tell1 c7 c2 c3 hP hbA hlm hc
    obtain ⟨r1, r2⟩ := cw_right hP f
    rw [r2] at T
    generalize cwP S.1 n m a bN lm (n - 1) f = F at *
    have hne : 15 ≠ wr := by omega
    have G : ∀ i, i ≠ 15 → i ≠ wr → (((w.set 15 (cdF wr S.1 n m a bN lm sz0)).set wr (aI len F)).set 15 (cdF wr S.1 n m a bN lm (nI (wy S.1 m a bN lm n 0 0 0 0))))[i]? = w[i]? := fun i a b => by
      rw [List.getElem?_set_ne (fun e => a e.symm), List.getElem?_set_ne (fun e => b e.symm), List.getElem?_set_ne (fun e => a e.symm)]
    have k15 : (w.set 15 (cdF wr S.1 n m a bN lm sz0))[15]? = some (cdF wr S.1 n m a bN lm sz0) := gse c7
    have kwr : (w.set 15 (cdF wr S.1 n m a bN lm sz0))[wr]? = some (aI len f) := gne hne c2
    have j15 : ((w.set 15 (cdF wr S.1 n m a bN lm sz0)).set wr (aI len F))[15]? = some (cdF wr S.1 n m a bN lm sz0) := gne hne.symm k15
    have g15 : (((w.set 15 (cdF wr S.1 n m a bN lm sz0)).set wr (aI len F)).set 15 (cdF wr S.1 n m a bN lm (nI (wy S.1 m a bN lm n 0 0 0 0))))[15]? = some (cdF wr S.1 n m a bN lm (nI (wy S.1 m a bN lm n 0 0 0 0))) := gse j15
    have gwr : (((w.set 15 (cdF wr S.1 n m a bN lm sz0)).set wr (aI len F)).set 15 (cdF wr S.1 n m a bN lm (nI (wy S.1 m a bN lm n 0 0 0 0))))[wr]? = some (aI len F) := gne hne (gse kwr)
    have gl : (((w.set 15 (cdF wr S.1 n m a bN lm sz0)).set wr (aI len F)).set 15 (cdF wr S.1 n m a bN lm (nI (wy S.1 m a bN lm n 0 0 0 0)))).length = w.length := by rw [List.length_set, List.length_set, List.length_set]
    have gt : tot (((w.set 15 (cdF wr S.1 n m a bN lm sz0)).set wr (aI len F)).set 15 (cdF wr S.1 n m a bN lm (nI (wy S.1 m a bN lm n 0 0 0 0)))) = tot w := Eq.trans (tot_set _ _ _ _ j15 (by rfl)) (Eq.trans (tot_set _ _ _ _ kwr (by rfl)) (tot_set _ _ _ _ c7 (by rfl)))
    generalize hw1 : ((w.set 15 (cdF wr S.1 n m a bN lm sz0)).set wr (aI len F)).set 15 (cdF wr S.1 n m a bN lm (nI (wy S.1 m a bN lm n 0 0 0 0))) = w1 at *
    have g1 := (G 1 (by decide) (by omega)).trans hA.1
    refine ⟨w1, X_codeG hS h hn hm ha hb ?_, fun i _ _ => G i (by omega) (by omega), hA.fr (fun i _ _ => G i (by omega) (by omega)), xc w1 wr len F used c1 gwr c3 ⟨⟨v16, by rw [G 16 (by decide) (by omega)]; exact h16⟩, ⟨v17, by rw [G 17 (by decide) (by omega)]; exact h17⟩⟩ (by rw [gl, gt]; exact c6) g15 hc r1, hPp.fr (fun i _ _ => G i (by omega) (by omega)), hQ.fr (fun i _ _ => G i (by omega) (by omega)), hT.fr hS.2.2.2.1.1 (fun i _ _ => G i (by omega) (by omega)), hL.fr (fun i _ _ => G i (by omega) (by omega))⟩
    refine e_aload_n dX6_code_62 rfl (pn 63 rfl ?_)
    refine e_get dX6_code_63 fl_X6_23 h.1.1 rfl (pn 66 rfl ?_)
    refine e_aload_n dX6_code_66 rfl (pn 67 rfl ?_)
    refine e_get dX6_code_67 fl_X6_9 h.1.1 rfl (pn 70 rfl ?_)
    refine e_iload_n dX6_code_70 rfl (pn 71 rfl ?_)
    refine e_iload_n dX6_code_71 rfl (pn 72 rfl ?_)
    refine e_iload_n dX6_code_72 rfl (pn 73 rfl ?_)
    refine e_iload dX6_code_73 rfl (pn 75 rfl ?_)
    refine c_V0 dX6_code_75 ml_X6_107 mv_X0_tell (by decide) T c7 rfl rfl (Nat.le_of_ble_eq_true rfl) (pn 78 rfl ?_)
    refine e_aload_n dX6_code_78 rfl (pn 79 rfl ?_)
    refine e_get dX6_code_79 fl_X6_23 g1 rfl (pn 82 rfl ?_)
    refine e_get dX6_code_82 fl_X6_111 g15 rfl (pn 85 rfl ?_)
    exact e_iret dX6_code_85 rfl rfl rfl
  · have hc : len < ceC S.1 n m lm := Nat.lt_of_not_le hc
    have T := d_tell2 c7 c2 c3 hP hbA hlm hc
    obtain ⟨r1, r2⟩ := cw_right hP (fun _ => 0)
    have hM := mrN_le (len := len) (ceC_le hP)
    have hM2 := mrN_2 (len := len) (ceC_le hP)
    rw [r2] at T
    generalize cwP S.1 n m a bN lm (n - 1) (fun _ => 0) = F at *
    generalize mrN (ceC S.1 n m lm) len = L at *
    have k15 : (w.set 15 (cdF wr S.1 n m a bN lm sz0))[15]? = some (cdF wr S.1 n m a bN lm sz0) := gse c7
    have kl : ((w.set 15 (cdF wr S.1 n m a bN lm sz0)) ++ [aI L (fun _ => 0)])[15]? = some (cdF wr S.1 n m a bN lm sz0) := by rw [List.getElem?_append_left (by rw [List.length_set]; exact lt15)]; exact k15
    have kn : ((w.set 15 (cdF wr S.1 n m a bN lm sz0)) ++ [aI L (fun _ => 0)])[w.length]? = some (aI L (fun _ => 0)) := by rw [List.getElem?_append_right (by rw [List.length_set]; exact Nat.le_refl _), List.length_set, Nat.sub_self]; rfl
    have i15 : (((w.set 15 (cdF wr S.1 n m a bN lm sz0)) ++ [aI L (fun _ => 0)]).set 15 (cdF w.length S.1 n m a bN lm sz0))[15]? = some (cdF w.length S.1 n m a bN lm sz0) := gse kl
    have iN : (((w.set 15 (cdF wr S.1 n m a bN lm sz0)) ++ [aI L (fun _ => 0)]).set 15 (cdF w.length S.1 n m a bN lm sz0))[w.length]? = some (aI L (fun _ => 0)) := gne (by omega) kn
    have j15 : ((((w.set 15 (cdF wr S.1 n m a bN lm sz0)) ++ [aI L (fun _ => 0)]).set 15 (cdF w.length S.1 n m a bN lm sz0)).set w.length (aI L F))[15]? = some (cdF w.length S.1 n m a bN lm sz0) := gne (by omega) i15
    have G : ∀ i, i ≠ 15 → i < w.length → (((((w.set 15 (cdF wr S.1 n m a bN lm sz0)) ++ [aI L (fun _ => 0)]).set 15 (cdF w.length S.1 n m a bN lm sz0)).set w.length (aI L F)).set 15 (cdF w.length S.1 n m a bN lm (nI (wy S.1 m a bN lm n 0 0 0 0))))[i]? = w[i]? := fun i a b => by
      rw [List.getElem?_set_ne (fun e => a e.symm), List.getElem?_set_ne (by omega), List.getElem?_set_ne (fun e => a e.symm), List.getElem?_append_left (by rw [List.length_set]; exact b), List.getElem?_set_ne (fun e => a e.symm)]
    have g15 : (((((w.set 15 (cdF wr S.1 n m a bN lm sz0)) ++ [aI L (fun _ => 0)]).set 15 (cdF w.length S.1 n m a bN lm sz0)).set w.length (aI L F)).set 15 (cdF w.length S.1 n m a bN lm (nI (wy S.1 m a bN lm n 0 0 0 0))))[15]? = some (cdF w.length S.1 n m a bN lm (nI (wy S.1 m a bN lm n 0 0 0 0))) := gse j15
    have gwr : (((((w.set 15 (cdF wr S.1 n m a bN lm sz0)) ++ [aI L (fun _ => 0)]).set 15 (cdF w.length S.1 n m a bN lm sz0)).set w.length (aI L F)).set 15 (cdF w.length S.1 n m a bN lm (nI (wy S.1 m a bN lm n 0 0 0 0))))[w.length]? = some (aI L F) := gne (by omega) (gse iN)
    have gl : (((((w.set 15 (cdF wr S.1 n m a bN lm sz0)) ++ [aI L (fun _ => 0)]).set 15 (cdF w.length S.1 n m a bN lm sz0)).set w.length (aI L F)).set 15 (cdF w.length S.1 n m a bN lm (nI (wy S.1 m a bN lm n 0 0 0 0)))).length = w.length + 1 := by rw [List.length_set, List.length_set, List.length_set, List.length_append, List.length_set]; rfl
    have gt : tot (((((w.set 15 (cdF wr S.1 n m a bN lm sz0)) ++ [aI L (fun _ => 0)]).set 15 (cdF w.length S.1 n m a bN lm sz0)).set w.length (aI L F)).set 15 (cdF w.length S.1 n m a bN lm (nI (wy S.1 m a bN lm n 0 0 0 0)))) = tot w + L := Eq.trans (tot_set _ _ _ _ j15 (by rfl)) (Eq.trans (tot_set _ _ _ _ iN (by rfl)) (Eq.trans (tot_set _ _ _ _ kl (by rfl)) (by rw [tot_app, tot_set _ _ _ (cdF wr S.1 n m a bN lm sz0) c7 rfl]; rfl)))
    generalize hw1 : ((((w.set 15 (cdF wr S.1 n m a bN lm sz0)) ++ [aI L (fun _ => 0)]).set 15 (cdF w.length S.1 n m a bN lm sz0)).set w.length (aI L F)).set 15 (cdF w.length S.1 n m a bN lm (nI (wy S.1 m a bN lm n 0 0 0 0))) = w1 at *
    obtain ⟨d1, d2, d3, d4, d5⟩ := c6
    have g1 := (G 1 (by decide) (by omega)).trans hA.1
    refine ⟨w1, X_codeG hS h hn hm ha hb ?_, fun i _ _ => G i (by omega) (by omega), hA.fr (fun i _ _ => G i (by omega) (by omega)), xc w1 w.length L F (used + L) (Or.inr d5) gwr hM.1 ⟨⟨v16, by rw [G 16 (by decide) (by omega)]; exact h16⟩, ⟨v17, by rw [G 17 (by decide) (by omega)]; exact h17⟩⟩ (by rw [gl, gt]; omega) g15 hM.2 r1, hPp.fr (fun i _ _ => G i (by omega) (by omega)), hQ.fr (fun i _ _ => G i (by omega) (by omega)), hT.fr hS.2.2.2.1.1 (fun i _ _ => G i (by omega) (by omega)), hL.fr (fun i _ _ => G i (by omega) (by omega))⟩
    refine e_aload_n dX6_code_62 rfl (pn 63 rfl ?_)
    refine e_get dX6_code_63 fl_X6_23 h.1.1 rfl (pn 66 rfl ?_)
    refine e_aload_n dX6_code_66 rfl (pn 67 rfl ?_)
    refine e_get dX6_code_67 fl_X6_9 h.1.1 rfl (pn 70 rfl ?_)
    refine e_iload_n dX6_code_70 rfl (pn 71 rfl ?_)
    refine e_iload_n dX6_code_71 rfl (pn 72 rfl ?_)
    refine e_iload_n dX6_code_72 rfl (pn 73 rfl ?_)
    refine e_iload dX6_code_73 rfl (pn 75 rfl ?_)
    refine c_V0 dX6_code_75 ml_X6_107 mv_X0_tell (by decide) T c7 rfl rfl (Nat.le_of_ble_eq_true rfl) (pn 78 rfl ?_)
    refine e_aload_n dX6_code_78 rfl (pn 79 rfl ?_)
    refine e_get dX6_code_79 fl_X6_23 g1 rfl (pn 82 rfl ?_)
    refine e_get dX6_code_82 fl_X6_111 g15 rfl (pn 85 rfl ?_)
    exact e_iret dX6_code_85 rfl rfl rfl
/-! sources, best -/
theorem brF_z (K : Nat) (tr : Nat → List Nat) (tn q n : Nat) : ∀ k, (brF K tr tn q n k).1 ≤ k ∧ ((brF K tr tn q n k).1 = 0 ↔ (brF K tr tn q n k).2.1 = 0)
  | 0 => ⟨Nat.le_refl _, Iff.rfl⟩
  | k + 1 => by
    obtain ⟨h1, h2⟩ := brF_z K tr tn q n k
    rw [brF]
    unfold stR
    split
    · rename_i hp
      refine ⟨Nat.succ_le_succ h1, ?_⟩
      refine ⟨fun e => absurd e (Nat.succ_ne_zero _), fun e => ?_⟩
      have e : (if (brF K tr tn q n k).2.1 < prN K tr (nuW q n k) tn 0 1 then (prN K tr (nuW q n k) tn 0 1, nuW q n k) else (brF K tr tn q n k).2).1 = 0 := e
      split at e
      · have e : prN K tr (nuW q n k) tn 0 1 = 0 := e
        omega
      · omega
    · exact ⟨Nat.le_succ_of_le h1, h2⟩
theorem X_search {w : Wd} {S : St} (hS : SI S) (h : XI w S) {n : Nat} (hn1 : 1 ≤ n) (hn : n ≤ 12) {K : Nat} (hK : K = 1000000000000000) : ∃ (w1 : Wd) (fd : Int32) (bp : Int64) (y : List Nat), CW mX5_search [.ref 26, .int (nI S.1), .int (nI n)] w (some (.int (nI (brF K S.2.2.2.1.2 S.2.2.2.1.1 S.1 n (S.1 ^ n)).1))) w1 ∧ FX w w1 ∧ XI w1 S ∧ w1[26]? = some (tcF S.2.2.2.1.1 S.1 n fd bp) ∧ w1[38]? = some (rowW y) ∧ ((brF K S.2.2.2.1.2 S.2.2.2.1.1 S.1 n (S.1 ^ n)).2.1 ≠ 0 → y = (brF K S.2.2.2.1.2 S.2.2.2.1.1 S.1 n (S.1 ^ n)).2.2) := by
  obtain ⟨⟨tq, tn, fd, bp, t1⟩, t2, t3, t4, ⟨e, t5⟩, ⟨v37, t6, t7⟩, ⟨v38, t8, t9⟩⟩ := id h.2.2.2.2.1
  have hH : tH w S.2.2.2.1.1 rf8 S.2.2.2.1.2 := ⟨t2, fun k hk => rf8_v hk, fun k hk => ⟨t4 k hk, hS.wt hk⟩, hS.2.2.2.1.1, ⟨_, t1⟩, ⟨_, t5⟩, ⟨_, t6⟩, ⟨_, t8⟩⟩
  obtain ⟨mn, hmn⟩ : ∃ mn : Int64 → Int64, ∀ y, mn y = mnP y := ⟨mnP, fun _ => rfl⟩
  have hid : wT w S.2.2.2.1.1 tq tn (e, v37, v38, fd, bp) = w := by
    show (((w.set 36 (aI 1352 e)).set 37 (rowW v37)).set 38 (rowW v38)).set 26 (tcF S.2.2.2.1.1 tq tn fd bp) = w
    rw [set_id t5, set_id t6, set_id t8, set_id t1]
  obtain ⟨C, O⟩ := t_search (q0 := tq) (n0 := tn) hH hS.1 hn1 hn (wg := wgV (fun e => wgP mn S.2.2.2.1.2 n e S.2.2.2.1.1 0 1)) (af := fun d l e => afF S.2.2.2.1.2 n d l S.2.2.2.1.1 0 e) (S := (e, v37, v38, fd, bp)) t9 t7
    (fun hlen T hT => ⟨t_wg hH T hn hlen hmn, by
      obtain ⟨o1, o2, o3⟩ := hT
      unfold wgV
      split
      · exact ⟨o1, o2, o1⟩
      · exact ⟨o1, o2, o3⟩⟩)
    (fun hlen d l T hd hl => t_af hH T hn hd hl hlen)
  obtain ⟨R, E⟩ := sr_ok hK hmn (tr := S.2.2.2.1.2) (size := S.2.2.2.1.1) hS.1.1 hS.2.2.2.1.1 hn (e, v37, v38, fd, bp)
  rw [hid, E] at C
  clear E
  generalize srV (wgV (fun e => wgP mn S.2.2.2.1.2 n e S.2.2.2.1.1 0 1)) (fun d l e => afF S.2.2.2.1.2 n d l S.2.2.2.1.1 0 e) S.2.2.2.1.2 S.2.2.2.1.1 S.1 n (e, v37, v38, fd, bp) = T at *
  generalize brF K S.2.2.2.1.2 S.2.2.2.1.1 S.1 n (S.1 ^ n) = B at *
  obtain ⟨u1, u26, u36, u37, u38⟩ := hH.up S.1 n T
  have G : ∀ i, i < 26 ∨ 38 < i → (wT w S.2.2.2.1.1 S.1 n T)[i]? = w[i]? := fun i hi => by
    show ((((w.set 36 (aI 1352 T.1)).set 37 (rowW T.2.1)).set 38 (rowW T.2.2.1)).set 26 (tcF S.2.2.2.1.1 S.1 n T.2.2.2.1 T.2.2.2.2))[i]? = _
    rw [List.getElem?_set_ne (by omega), List.getElem?_set_ne (by omega), List.getElem?_set_ne (by omega), List.getElem?_set_ne (by omega)]
  refine ⟨_, T.2.2.2.1, T.2.2.2.2, T.2.2.1, C, fun i _ _ => G i (by omega), h.inT G ?_ ?_ ⟨rfl, rfl, rfl, rfl⟩ ⟨⟨_, _, _, _, u26⟩, u1.1, fun k hk => ?_, fun k hk => (u1.2.2.1 k hk).1, ⟨_, u36⟩, ⟨_, u37, O.1⟩, ⟨_, u38, O.2.2⟩⟩, u26, u38, R.2.2.2⟩
  · show ((((w.set 36 (aI 1352 T.1)).set 37 (rowW T.2.1)).set 38 (rowW T.2.2.1)).set 26 (tcF S.2.2.2.1.1 S.1 n T.2.2.2.1 T.2.2.2.2)).length = _
    rw [List.length_set, List.length_set, List.length_set, List.length_set]
  · exact Eq.trans (tot_set _ _ _ _ (gne (by decide) (gne (by decide) (gne (by decide) t1))) (by rfl)) (Eq.trans (tot_set _ _ _ _ (gne (by decide) (gne (by decide) t8)) (by rfl)) (Eq.trans (tot_set _ _ _ _ (gne (by decide) t6) (by rfl)) (tot_set _ _ _ _ t5 (by rfl))))
  · obtain ⟨v', h'⟩ := t3 k hk
    exact ⟨v', gne (by omega) (gne (by omega) (gne (by omega) (gne (by omega) h')))⟩
theorem X_src0 {w : Wd} {S : St} (hS : SI S) (h : XI w S) {n : Int32} (hb : ¬ sOK S.1 n) : CW mX6_sources [.ref 1, .int n] w (some (.int (-1))) w := by
  refine cw_of (M := mX6_sources) fx_X6_sources (lv := [.ref 1, .int n]) rfl (Nat.le_of_ble_eq_true rfl) ?_
  refine e_aload_n dX6_sources_0 rfl (pn 1 rfl ?_)
  refine e_iload_n dX6_sources_1 rfl (pn 2 rfl ?_)
  refine c_V1 dX6_sources_2 ml_X6_169 mv_X6_isSourceLength (by decide) ((x_isSL h.1.1 hS.1 n).2 hb) h.1.1 rfl rfl (Nat.le_of_ble_eq_true rfl) (pn 5 rfl ?_)
  refine e_if_eq 23 dX6_sources_5 (by decide) (fun _ => ?_) (fun c_9 => absurd (by decide) c_9)
  refine e_ic (-1) dX6_sources_23 (by decide) (pn 24 rfl ?_)
  exact e_iret dX6_sources_24 rfl rfl rfl
theorem X_src1 {w : Wd} {S : St} (hS : SI S) (h : XI w S) {n : Nat} (hn1 : 1 ≤ n) (hn : n ≤ 12) (hp : S.1 ^ n ≤ 4096) {K : Nat} (hK : K = 1000000000000000) : ∃ w1, CW mX6_sources [.ref 1, .int (nI n)] w (some (.int (nI (brF K S.2.2.2.1.2 S.2.2.2.1.1 S.1 n (S.1 ^ n)).1))) w1 ∧ FX w w1 ∧ XI w1 S := by
  obtain ⟨w1, fd, bp, y, C, F, X1, -, -, -⟩ := X_search hS h hn1 hn hK
  obtain ⟨tq, tn, fd2, bp2, t1⟩ := h.2.2.2.2.1.1
  have I := (x_isSL h.1.1 hS.1 (nI n)).1 ⟨n, rfl, hn1, hn, hp⟩
  generalize brF K S.2.2.2.1.2 S.2.2.2.1.1 S.1 n (S.1 ^ n) = B at *
  refine ⟨w1, ?_, F, X1⟩
  refine cw_of (M := mX6_sources) fx_X6_sources (lv := [.ref 1, .int (nI n)]) rfl (Nat.le_of_ble_eq_true rfl) ?_
  refine e_aload_n dX6_sources_0 rfl (pn 1 rfl ?_)
  refine e_iload_n dX6_sources_1 rfl (pn 2 rfl ?_)
  refine c_V1 dX6_sources_2 ml_X6_169 mv_X6_isSourceLength (by decide) I h.1.1 rfl rfl (Nat.le_of_ble_eq_true rfl) (pn 5 rfl ?_)
  refine e_if_eq 23 dX6_sources_5 (by decide) (fun c_9 => absurd c_9 (by decide)) (fun _ => pn 8 rfl ?_)
  refine e_aload_n dX6_sources_8 rfl (pn 9 rfl ?_)
  refine e_get dX6_sources_9 fl_X6_44 h.1.1 rfl (pn 12 rfl ?_)
  refine e_aload_n dX6_sources_12 rfl (pn 13 rfl ?_)
  refine e_get dX6_sources_13 fl_X6_9 h.1.1 rfl (pn 16 rfl ?_)
  refine e_iload_n dX6_sources_16 rfl (pn 17 rfl ?_)
  refine c_V1 dX6_sources_17 ml_X6_172 mv_X5_search (by decide) C t1 rfl rfl (Nat.le_of_ble_eq_true rfl) (pn 20 rfl ?_)
  refine e_goto 24 dX6_sources_20 (by decide) ?_
  exact e_iret dX6_sources_24 rfl rfl rfl
theorem X_best0 {w : Wd} {S : St} (hS : SI S) (h : XI w S) {s n : Int32} (hb : ¬ (rOK s ∧ sOK S.1 n)) : CW mX6_best [.ref 1, .int s, .int n] w (some (.int (-1))) w := by
  refine cw_of (M := mX6_best) fx_X6_best (lv := [.ref 1, .int s, .int n]) rfl (Nat.le_of_ble_eq_true rfl) ?_
  refine e_iload_n dX6_best_0 rfl (pn 1 rfl ?_)
  refine c_S1 dX6_best_1 ml_X6_62 ms_X6_isRegister (by decide) (x_isR w s) rfl rfl (Nat.le_of_ble_eq_true rfl) (pn 4 rfl ?_)
  by_cases hs : rOK s
  · rw [iRp hs]
    refine e_if_eq 15 dX6_best_4 (by decide) (fun c_9 => absurd c_9 (by decide)) (fun _ => pn 7 rfl ?_)
    refine e_aload_n dX6_best_7 rfl (pn 8 rfl ?_)
    refine e_iload_n dX6_best_8 rfl (pn 9 rfl ?_)
    refine c_V1 dX6_best_9 ml_X6_169 mv_X6_isSourceLength (by decide) ((x_isSL h.1.1 hS.1 n).2 (fun e => hb ⟨hs, e⟩)) h.1.1 rfl rfl (Nat.le_of_ble_eq_true rfl) (pn 12 rfl ?_)
    refine e_if_ne 17 dX6_best_12 (by decide) (fun c_9 => absurd c_9 (by decide)) (fun _ => pn 15 rfl ?_)
    refine e_ic (-1) dX6_best_15 (by decide) (pn 16 rfl ?_)
    exact e_iret dX6_best_16 rfl rfl rfl
  · rw [iR0 hs]
    refine e_if_eq 15 dX6_best_4 (by decide) (fun _ => ?_) (fun c_9 => absurd (by decide) c_9)
    refine e_ic (-1) dX6_best_15 (by decide) (pn 16 rfl ?_)
    exact e_iret dX6_best_16 rfl rfl rfl
theorem X_best1 {w : Wd} {S : St} (hS : SI S) (h : XI w S) {s n : Nat} (hs : s < 12) (hn1 : 1 ≤ n) (hn : n ≤ 12) (hp : S.1 ^ n ≤ 4096) {K : Nat} (hK : K = 1000000000000000) : ∃ w1, CW mX6_best [.ref 1, .int (nI s), .int (nI n)] w (some (.int (if (brF K S.2.2.2.1.2 S.2.2.2.1.1 S.1 n (S.1 ^ n)).2.1 = 0 then -4 else nI n))) w1 ∧ FX w w1 ∧ XI w1 (if (brF K S.2.2.2.1.2 S.2.2.2.1.1 S.1 n (S.1 ^ n)).2.1 = 0 then S else sReg S s (brF K S.2.2.2.1.2 S.2.2.2.1.1 S.1 n (S.1 ^ n)).2.2) := by
  obtain ⟨w1, fd, bp, y, C, F, X1, g26, g38, ey⟩ := X_search hS h hn1 hn hK
  obtain ⟨tq, tn, fd2, bp2, t1⟩ := h.2.2.2.2.1.1
  have I := (x_isSL h.1.1 hS.1 (nI n)).1 ⟨n, rfl, hn1, hn, hp⟩
  obtain ⟨z1, z2⟩ := brF_z K S.2.2.2.1.2 S.2.2.2.1.1 S.1 n (S.1 ^ n)
  generalize brF K S.2.2.2.1.2 S.2.2.2.1.1 S.1 n (S.1 ^ n) = B at *
  have pre : ∀ {r : Option Value} {w' : Wd}, EW mX6_best none 29 [.ref 1, .int (nI s), .int (nI n)] [.int (nI B.1)] w1 r w' → CW mX6_best [.ref 1, .int (nI s), .int (nI n)] w r w' := by
    intro r w' K
    refine cw_of (M := mX6_best) fx_X6_best (lv := [.ref 1, .int (nI s), .int (nI n)]) rfl (Nat.le_of_ble_eq_true rfl) ?_
    refine e_iload_n dX6_best_0 rfl (pn 1 rfl ?_)
    refine c_S1 dX6_best_1 ml_X6_62 ms_X6_isRegister (by decide) (x_isR w _) rfl rfl (Nat.le_of_ble_eq_true rfl) (pn 4 rfl ?_)
    rw [iR1 hs]
    refine e_if_eq 15 dX6_best_4 (by decide) (fun c_9 => absurd c_9 (by decide)) (fun _ => pn 7 rfl ?_)
    refine e_aload_n dX6_best_7 rfl (pn 8 rfl ?_)
    refine e_iload_n dX6_best_8 rfl (pn 9 rfl ?_)
    refine c_V1 dX6_best_9 ml_X6_169 mv_X6_isSourceLength (by decide) I h.1.1 rfl rfl (Nat.le_of_ble_eq_true rfl) (pn 12 rfl ?_)
    refine e_if_ne 17 dX6_best_12 (by decide) (fun _ => ?_) (fun c_9 => absurd c_9 (by decide))
    refine e_aload_n dX6_best_17 rfl (pn 18 rfl ?_)
    refine e_get dX6_best_18 fl_X6_44 h.1.1 rfl (pn 21 rfl ?_)
    refine e_aload_n dX6_best_21 rfl (pn 22 rfl ?_)
    refine e_get dX6_best_22 fl_X6_9 h.1.1 rfl (pn 25 rfl ?_)
    refine e_iload_n dX6_best_25 rfl (pn 26 rfl ?_)
    refine c_V1 dX6_best_26 ml_X6_172 mv_X5_search (by decide) C t1 rfl rfl (Nat.le_of_ble_eq_true rfl) (pn 29 rfl ?_)
    exact K
  by_cases hz : B.2.1 = 0
  · rw [if_pos hz, if_pos hz]
    refine ⟨w1, pre ?_, F, X1⟩
    refine e_if_ne 35 dX6_best_29 (by decide) (fun c_9 => absurd c_9 (fun e => e (by rw [z2.mpr hz]; rfl))) (fun _ => pn 32 rfl ?_)
    refine e_bi (-4) dX6_best_32 (by decide) (pn 34 rfl ?_)
    exact e_iret dX6_best_34 rfl rfl rfl
  · rw [if_neg hz, if_neg hz]
    have rs := X1.1.2.2 s hs
    rw [ey hz] at g38
    refine ⟨_, pre ?_, F.tr (ag (rowW B.2.2) (by omega)), X1.reg hS hs _⟩
    refine e_if_ne 35 dX6_best_29 (by decide) (fun _ => ?_) (fun c_9 => absurd c_9 (nI_ne0 (Nat.pos_of_ne_zero (fun e => hz (z2.mp e))) (by omega)))
    refine e_aload_n dX6_best_35 rfl (pn 36 rfl ?_)
    refine e_get dX6_best_36 fl_X6_15 X1.1.1 rfl (pn 39 rfl ?_)
    refine e_iload_n dX6_best_39 rfl (pn 40 rfl ?_)
    refine e_aald (s) dX6_best_40 X1.1.2.1 rfl hs (by omega) (rf12_v hs) (pn 41 rfl ?_)
    refine e_aload_n dX6_best_41 rfl (pn 42 rfl ?_)
    refine e_get dX6_best_42 fl_X6_44 X1.1.1 rfl (pn 45 rfl ?_)
    refine e_get dX6_best_45 fl_X6_176 g26 rfl (pn 48 rfl ?_)
    refine c_V0 dX6_best_48 ml_X6_89 mv_X4_become (by decide) (r_become rs g38) rs rfl rfl (Nat.le_of_ble_eq_true rfl) (pn 51 rfl ?_)
    refine e_iload_n dX6_best_51 rfl (pn 52 rfl ?_)
    exact e_iret dX6_best_52 rfl rfl rfl
