/-! letters -/
theorem X_let0 (w : Wd) {v : Int32} (h : ¬ (2 ≤ v ∧ v ≤ 4)) : CW mX6_letters [.ref 1, .int v] w (some (.int (-1))) w := by
  refine cw_of (M := mX6_letters) fx_X6_letters (lv := [.ref 1, .int v, dmy]) rfl (Nat.le_of_ble_eq_true rfl) ?_
  refine e_iload_n dX6_letters_0 rfl (pn 1 rfl ?_)
  refine e_ic (2) dX6_letters_1 (by decide) (pn 2 rfl ?_)
  refine e_icmp_lt 10 dX6_letters_2 (by decide) (fun c2 => ?_) (fun c2 => pn 5 rfl ?_)
  · refine e_ic (-1) dX6_letters_10 (by decide) (pn 11 rfl ?_)
    exact e_iret dX6_letters_11 rfl rfl rfl
  · refine e_iload_n dX6_letters_5 rfl (pn 6 rfl ?_)
    refine e_ic (4) dX6_letters_6 (by decide) (pn 7 rfl ?_)
    refine e_icmp_le 12 dX6_letters_7 (by decide) (fun c_9 => absurd c_9 (fun e => h ⟨by rw [fa_lt] at c2; rw [fa_le]; omega, e⟩)) (fun _ => pn 10 rfl ?_)
    refine e_ic (-1) dX6_letters_10 (by decide) (pn 11 rfl ?_)
    exact e_iret dX6_letters_11 rfl rfl rfl
theorem X_let1 {w : Wd} {S : St} (hS : SI S) (h : XI w S) {q : Nat} (hq : 2 ≤ q ∧ q ≤ 4) : ∃ w1, CW mX6_letters [.ref 1, .int (nI q)] w (some (.int 0)) w1 ∧ FX w w1 ∧ XI w1 (sLet S q) := by
  obtain ⟨hA, hC, hP, hQ, hT, hL⟩ := h
  obtain ⟨wr, len, f, used, c1, c2, c3, ⟨⟨c4, hc4⟩, ⟨c5, hc5⟩⟩, c6, ⟨q0, m0, a0, b0, lm0, sz0, c7⟩, -⟩ := hC
  obtain ⟨⟨tq, tn, fd, bp, t1⟩, t2, t3, -, t5⟩ := hT
  have loop : ∀ (c k : Nat) (w1 : Wd), k + c = 12 → XA w1 (q, (fun j => if j < k then [] else S.2.1 j), S.2.2) → (∀ i, 15 ≤ i → w1[i]? = w[i]?) → w1.length = w.length → tot w1 = tot w → ∃ w2, EW mX6_letters none 19 [.ref 1, .int (nI q), .int (nI k)] [] w1 (some (.int 0)) w2 ∧ FX w w2 ∧ XI w2 (sLet S q) := by
    intro c
    induction c with
    | zero =>
      intro k w1 hk h1 h2 h3 h4
      have e : k = 12 := by omega
      subst e
      have g15 : w1[15]? = some (cdF wr q0 S.2.2.1.1 m0 a0 b0 lm0 sz0) := by rw [h2 15 (by decide)]; exact c7
      have g26 : (w1.set 15 (cdF wr q0 0 m0 a0 b0 lm0 sz0))[26]? = some (tcF S.2.2.2.1.1 tq tn fd bp) := gne (by decide) (by rw [h2 26 (by decide)]; exact t1)
      have g1 : (w1.set 15 (cdF wr q0 0 m0 a0 b0 lm0 sz0))[1]? = some (lxF q) := gne (by decide) h1.1
      have all : ∀ i, 15 ≤ i → i ≠ 15 → i ≠ 26 → ((w1.set 15 (cdF wr q0 0 m0 a0 b0 lm0 sz0)).set 26 (tcF 0 tq tn fd bp))[i]? = w[i]? := fun i a b c => by rw [List.getElem?_set_ne (fun e => c e.symm), List.getElem?_set_ne (fun e => b e.symm)]; exact h2 i a
      have hlen : ((w1.set 15 (cdF wr q0 0 m0 a0 b0 lm0 sz0)).set 26 (tcF 0 tq tn fd bp)).length = w.length := by rw [List.length_set, List.length_set]; exact h3
      have htot : tot ((w1.set 15 (cdF wr q0 0 m0 a0 b0 lm0 sz0)).set 26 (tcF 0 tq tn fd bp)) = tot w := (tot_set _ _ _ (tcF 0 tq tn fd bp) g26 rfl).trans ((tot_set _ _ _ (cdF wr q0 0 m0 a0 b0 lm0 sz0) g15 rfl).trans h4)
      refine ⟨(w1.set 15 (cdF wr q0 0 m0 a0 b0 lm0 sz0)).set 26 (tcF 0 tq tn fd bp), ?_, fun i a b => all i (by omega) (by omega) (by omega), ?_⟩
      · refine e_iload_n dX6_letters_19 rfl (pn 20 rfl ?_)
        refine e_bi (12) dX6_letters_20 (by decide) (pn 22 rfl ?_)
        refine e_icmp_ge 40 dX6_letters_22 (by decide) (fun _ => ?_) (fun c_9 => absurd (by decide) c_9)
        refine e_aload_n dX6_letters_40 rfl (pn 41 rfl ?_)
        refine e_get dX6_letters_41 fl_X6_23 h1.1 rfl (pn 44 rfl ?_)
        refine c_V0 dX6_letters_44 ml_X6_58 mv_X0_forget (by decide) (d_forget g15) g15 rfl rfl (Nat.le_of_ble_eq_true rfl) (pn 47 rfl ?_)
        refine e_aload_n dX6_letters_47 rfl (pn 48 rfl ?_)
        refine e_get dX6_letters_48 fl_X6_44 g1 rfl (pn 51 rfl ?_)
        refine c_V0 dX6_letters_51 ml_X6_61 mv_X5_forget (by decide) (t_forget g26) g26 rfl rfl (Nat.le_of_ble_eq_true rfl) (pn 54 rfl ?_)
        refine e_ic (0) dX6_letters_54 (by decide) (pn 55 rfl ?_)
        exact e_iret dX6_letters_55 rfl rfl rfl
      · refine ⟨⟨gne (by decide) (gne (by decide) h1.1), gne (by decide) (gne (by decide) h1.2.1), fun k hk => gne (by omega) (gne (by omega) ?_)⟩, ⟨wr, len, f, used, c1, ?_, c3, ⟨⟨c4, ?_⟩, ⟨c5, ?_⟩⟩, ?_, ⟨q0, m0, a0, b0, lm0, sz0, gne (by decide) (gse g15)⟩, fun e => absurd rfl e⟩, hP.fr (fun i a b => all i (by omega) (by omega) (by omega)), hQ.fr (fun i a b => all i (by omega) (by omega) (by omega)), ?_, hL.fr (fun i a b => all i (by omega) (by omega) (by omega))⟩
        · have := h1.2.2 k hk
          rw [this]
          show some (rowW (if k < 12 then [] else S.2.1 k)) = _
          rw [if_pos hk]
        · rw [all wr (by omega) (by omega) (by omega)]; exact c2
        · rw [all 16 (by decide) (by decide) (by decide)]; exact hc4
        · rw [all 17 (by decide) (by decide) (by decide)]; exact hc5
        · rw [hlen, htot]; exact c6
        · refine ⟨⟨tq, tn, fd, bp, gse g26⟩, by rw [all 27 (by decide) (by decide) (by decide)]; exact t2, fun k hk => by rw [all (28 + k) (by omega) (by omega) (by omega)]; exact t3 k hk, fun k hk => absurd hk (Nat.not_lt_zero k), ?_⟩
          rw [all 36 (by decide) (by decide) (by decide), all 37 (by decide) (by decide) (by decide), all 38 (by decide) (by decide) (by decide)]
          exact t5
    | succ c ih =>
      intro k w1 hk h1 h2 h3 h4
      have hk2 : k < 12 := by omega
      have hrow := h1.2.2 k hk2
      obtain ⟨w2, K, F, M⟩ := ih (k + 1) (w1.set (3 + k) (rowW [])) (by omega) ⟨gne (by omega) h1.1, gne (by omega) h1.2.1, fun j hj => by
        show _ = some (rowW (if j < k + 1 then [] else S.2.1 j))
        by_cases e : j = k
        · subst e; rw [if_pos (by omega)]; exact gse hrow
        · have := h1.2.2 j hj
          have this : w1[3 + j]? = some (rowW (if j < k then [] else S.2.1 j)) := this
          rw [List.getElem?_set_ne (by omega), this]
          by_cases e2 : j < k
          · rw [if_pos e2, if_pos (by omega)]
          · rw [if_neg e2, if_neg (by omega)]⟩ (fun i hi => by rw [List.getElem?_set_ne (by omega)]; exact h2 i hi) (by rw [List.length_set]; exact h3) ((tot_set _ _ _ (rowW []) hrow rfl).trans h4)
      refine ⟨w2, ?_, F, M⟩
      refine e_iload_n dX6_letters_19 rfl (pn 20 rfl ?_)
      refine e_bi (12) dX6_letters_20 (by decide) (pn 22 rfl ?_)
      refine e_icmp_ge 40 dX6_letters_22 (by decide) (fun c_9 => absurd c_9 (nI_ge (b := 12) hk2 (by omega))) (fun _ => pn 25 rfl ?_)
      refine e_aload_n dX6_letters_25 rfl (pn 26 rfl ?_)
      refine e_get dX6_letters_26 fl_X6_15 h1.1 rfl (pn 29 rfl ?_)
      refine e_iload_n dX6_letters_29 rfl (pn 30 rfl ?_)
      refine e_aald (k) dX6_letters_30 h1.2.1 rfl hk2 (by omega) (rf12_v hk2) (pn 31 rfl ?_)
      refine c_V0 dX6_letters_31 ml_X6_55 mv_X4_clear (by decide) (w_clear hrow) hrow rfl rfl (Nat.le_of_ble_eq_true rfl) (pn 34 rfl ?_)
      refine s_inc [_, _, _] (1) dX6_letters_34 (by decide) rfl (Nat.le_of_ble_eq_true rfl) rfl (pn 37 rfl ?_)
      refine e_goto 19 dX6_letters_37 (by decide) ?_
      rw [nI_1]
      exact K
  obtain ⟨w2, K, F, M⟩ := loop 12 0 (w.set 1 (lxF q)) (by omega) ⟨gse hA.1, gne (by decide) hA.2.1, fun j hj => by
    show _ = some (rowW (if j < 0 then [] else S.2.1 j))
    rw [if_neg (Nat.not_lt_zero j)]
    exact gne (by omega) (hA.2.2 j hj)⟩ (fun i hi => List.getElem?_set_ne (by omega)) List.length_set (tot_set _ _ _ (lxF q) hA.1 rfl)
  refine ⟨w2, ?_, F, M⟩
  refine cw_of (M := mX6_letters) fx_X6_letters (lv := [.ref 1, .int (nI q), dmy]) rfl (Nat.le_of_ble_eq_true rfl) ?_
  refine e_iload_n dX6_letters_0 rfl (pn 1 rfl ?_)
  refine e_ic (2) dX6_letters_1 (by decide) (pn 2 rfl ?_)
  refine e_icmp_lt 10 dX6_letters_2 (by decide) (fun c_9 => absurd c_9 (nI_nlt (b := 2) hq.1 (by omega))) (fun _ => pn 5 rfl ?_)
  refine e_iload_n dX6_letters_5 rfl (pn 6 rfl ?_)
  refine e_ic (4) dX6_letters_6 (by decide) (pn 7 rfl ?_)
  refine e_icmp_le 12 dX6_letters_7 (by decide) (fun _ => ?_) (fun c_9 => absurd (nI_le (b := 4) hq.2 (by omega)) c_9)
  refine e_aload_n dX6_letters_12 rfl (pn 13 rfl ?_)
  refine e_iload_n dX6_letters_13 rfl (pn 14 rfl ?_)
  refine e_put dX6_letters_14 fp_X6_9 hA.1 rfl (Nat.le_of_ble_eq_true rfl) (pn 17 rfl ?_)
  refine e_ic (0) dX6_letters_17 (by decide) (pn 18 rfl ?_)
  refine s_in [_, _, _] dX6_letters_18 (Nat.le_of_ble_eq_true rfl) rfl (pn 19 rfl ?_)
  exact K
/-! word -/
theorem X_word0 (w : Wd) {s n : Int32} {row : Int64} (h : ¬ (rOK s ∧ 0 ≤ n ∧ n ≤ 24)) : CW mX6_word [.ref 1, .int s, .int n, .long row] w (some (.int (-1))) w := by
  refine cw_of (M := mX6_word) fx_X6_word (lv := [.ref 1, .int s, .int n, .long row, dmy]) rfl (Nat.le_of_ble_eq_true rfl) ?_
  refine e_iload_n dX6_word_0 rfl (pn 1 rfl ?_)
  refine c_S1 dX6_word_1 ml_X6_62 ms_X6_isRegister (by decide) (x_isR w s) rfl rfl (Nat.le_of_ble_eq_true rfl) (pn 4 rfl ?_)
  by_cases hs : rOK s
  · rw [iRp hs]
    refine e_if_eq 26 dX6_word_4 (by decide) (fun c_9 => absurd c_9 (by decide)) (fun _ => pn 7 rfl ?_)
    refine e_iload_n dX6_word_7 rfl (pn 8 rfl ?_)
    refine e_if_lt 26 dX6_word_8 (by decide) (fun c8 => ?_) (fun c8 => pn 11 rfl ?_)
    · refine e_ic (-1) dX6_word_26 (by decide) (pn 27 rfl ?_)
      exact e_iret dX6_word_27 rfl rfl rfl
    · refine e_iload_n dX6_word_11 rfl (pn 12 rfl ?_)
      refine e_bi (24) dX6_word_12 (by decide) (pn 14 rfl ?_)
      have h9 : ¬ n ≤ 24 := fun e => h ⟨hs, by rw [fa_lt] at c8; rw [fa_le]; omega, e⟩
      refine e_icmp_gt 26 dX6_word_14 (by decide) (fun _ => ?_) (fun c_9 => absurd (by rw [fa_le] at h9; rw [fa_lt]; omega) c_9)
      refine e_ic (-1) dX6_word_26 (by decide) (pn 27 rfl ?_)
      exact e_iret dX6_word_27 rfl rfl rfl
  · rw [iR0 hs]
    refine e_if_eq 26 dX6_word_4 (by decide) (fun _ => ?_) (fun c_9 => absurd (by decide) c_9)
    refine e_ic (-1) dX6_word_26 (by decide) (pn 27 rfl ?_)
    exact e_iret dX6_word_27 rfl rfl rfl
theorem X_wordP {w : Wd} {S : St} (hS : SI S) (h : XI w S) {s n x : Nat} (hs : s < 12) (hn : n ≤ 24) (hx : x < 2 ^ 64) {r : Option Value} {w' : Wd} (K : EW mX6_word none 23 [.ref 1, .int (nI s), .int (nI n), .long (lN x), dmy] [.int (if wOK S.1 n x then 1 else 0)] w r w') : CW mX6_word [.ref 1, .int (nI s), .int (nI n), .long (lN x)] w r w' := by
  refine cw_of (M := mX6_word) fx_X6_word (lv := [.ref 1, .int (nI s), .int (nI n), .long (lN x), dmy]) rfl (Nat.le_of_ble_eq_true rfl) ?_
  refine e_iload_n dX6_word_0 rfl (pn 1 rfl ?_)
  refine c_S1 dX6_word_1 ml_X6_62 ms_X6_isRegister (by decide) (x_isR w _) rfl rfl (Nat.le_of_ble_eq_true rfl) (pn 4 rfl ?_)
  rw [iR1 hs]
  refine e_if_eq 26 dX6_word_4 (by decide) (fun c_9 => absurd c_9 (by decide)) (fun _ => pn 7 rfl ?_)
  refine e_iload_n dX6_word_7 rfl (pn 8 rfl ?_)
  refine e_if_lt 26 dX6_word_8 (by decide) (fun c_9 => absurd c_9 (nI_pos (by omega))) (fun _ => pn 11 rfl ?_)
  refine e_iload_n dX6_word_11 rfl (pn 12 rfl ?_)
  refine e_bi (24) dX6_word_12 (by decide) (pn 14 rfl ?_)
  refine e_icmp_gt 26 dX6_word_14 (by decide) (fun c_9 => absurd c_9 (nI_nlt (a := 24) hn (by omega))) (fun _ => pn 17 rfl ?_)
  refine e_aload_n dX6_word_17 rfl (pn 18 rfl ?_)
  refine e_iload_n dX6_word_18 rfl (pn 19 rfl ?_)
  refine e_lload_n dX6_word_19 rfl (pn 20 rfl ?_)
  refine c_V1 dX6_word_20 ml_X6_66 mv_X6_isRow (by decide) (x_isRow h.1.1 hS.1 hn hx) h.1.1 rfl rfl (Nat.le_of_ble_eq_true rfl) (pn 23 rfl ?_)
  exact K
theorem X_word1 {w : Wd} {S : St} (hS : SI S) (h : XI w S) {s n x : Nat} (hs : s < 12) (hn : n ≤ 24) (hx : x < 2 ^ 64) (hb : ¬ wOK S.1 n x) : CW mX6_word [.ref 1, .int (nI s), .int (nI n), .long (lN x)] w (some (.int (-1))) w := by
  refine X_wordP hS h hs hn hx ?_
  rw [if_neg hb]
  refine e_if_ne 28 dX6_word_23 (by decide) (fun c_9 => absurd c_9 (by decide)) (fun _ => pn 26 rfl ?_)
  refine e_ic (-1) dX6_word_26 (by decide) (pn 27 rfl ?_)
  exact e_iret dX6_word_27 rfl rfl rfl
theorem X_word2 {w : Wd} {S : St} (hS : SI S) (h : XI w S) {s n x : Nat} (hs : s < 12) (hn : n ≤ 24) (hx : x < 2 ^ 64) (hg : wOK S.1 n x) : ∃ w1, CW mX6_word [.ref 1, .int (nI s), .int (nI n), .long (lN x)] w (some (.int (nI n))) w1 ∧ FX w w1 ∧ XI w1 (sReg S s (dgW x n)) := by
  refine ⟨w.set (3 + s) (rowW (dgW x n)), X_wordP hS h hs hn hx ?_, ag _ (by omega), h.reg hS hs _⟩
  have hrow := h.1.2.2 s hs
  rw [if_pos hg]
  refine e_if_ne 28 dX6_word_23 (by decide) (fun _ => ?_) (fun c_9 => absurd c_9 (by decide))
  refine e_aload_n dX6_word_28 rfl (pn 29 rfl ?_)
  refine e_get dX6_word_29 fl_X6_15 h.1.1 rfl (pn 32 rfl ?_)
  refine e_iload_n dX6_word_32 rfl (pn 33 rfl ?_)
  refine e_aald (s) dX6_word_33 h.1.2.1 rfl hs (by omega) (rf12_v hs) (pn 34 rfl ?_)
  refine e_iload_n dX6_word_34 rfl (pn 35 rfl ?_)
  refine e_lload_n dX6_word_35 rfl (pn 36 rfl ?_)
  refine c_V0 dX6_word_36 ml_X6_70 mv_X4_put (by decide) (r_put (nI n) (lN x) hrow) hrow rfl rfl (Nat.le_of_ble_eq_true rfl) (pn 39 rfl ?_)
  refine e_iload_n dX6_word_39 rfl (pn 40 rfl ?_)
  exact e_iret dX6_word_40 rfl rfl (by show w.set (3 + s) (rwC (lN x) (nI n)) = w.set (3 + s) (rwC (lN (enc (dgW x n))) (nI (dgW x n).length)); rw [dgW_enc, dgW_len, Nat.mod_eq_of_lt hg.1])
/-! at -/
theorem X_at0 (w : Wd) {s i : Int32} (h : ¬ (rOK s ∧ (-1 : Int32) ≤ i)) : CW mX6_at [.ref 1, .int s, .int i] w (some (.int (-1))) w := by
  refine cw_of (M := mX6_at) fx_X6_at (lv := [.ref 1, .int s, .int i, dmy]) rfl (Nat.le_of_ble_eq_true rfl) ?_
  refine e_iload_n dX6_at_0 rfl (pn 1 rfl ?_)
  refine c_S1 dX6_at_1 ml_X6_62 ms_X6_isRegister (by decide) (x_isR w s) rfl rfl (Nat.le_of_ble_eq_true rfl) (pn 4 rfl ?_)
  by_cases hs : rOK s
  · rw [iRp hs]
    refine e_if_eq 12 dX6_at_4 (by decide) (fun c_9 => absurd c_9 (by decide)) (fun _ => pn 7 rfl ?_)
    refine e_iload_n dX6_at_7 rfl (pn 8 rfl ?_)
    refine e_ic (-1) dX6_at_8 (by decide) (pn 9 rfl ?_)
    refine e_icmp_ge 14 dX6_at_9 (by decide) (fun c_9 => absurd c_9 (fun e => h ⟨hs, e⟩)) (fun _ => pn 12 rfl ?_)
    refine e_ic (-1) dX6_at_12 (by decide) (pn 13 rfl ?_)
    exact e_iret dX6_at_13 rfl rfl rfl
  · rw [iR0 hs]
    refine e_if_eq 12 dX6_at_4 (by decide) (fun _ => ?_) (fun c_9 => absurd (by decide) c_9)
    refine e_ic (-1) dX6_at_12 (by decide) (pn 13 rfl ?_)
    exact e_iret dX6_at_13 rfl rfl rfl
theorem X_at1 {w : Wd} {S : St} (h : XI w S) {s : Nat} (hs : s < 12) : CW mX6_at [.ref 1, .int (nI s), .int (-1)] w (some (.int (nI (S.2.1 s).length))) w := by
  have hrow := h.1.2.2 s hs
  refine cw_of (M := mX6_at) fx_X6_at (lv := [.ref 1, .int (nI s), .int (-1), dmy]) rfl (Nat.le_of_ble_eq_true rfl) ?_
  refine e_iload_n dX6_at_0 rfl (pn 1 rfl ?_)
  refine c_S1 dX6_at_1 ml_X6_62 ms_X6_isRegister (by decide) (x_isR w _) rfl rfl (Nat.le_of_ble_eq_true rfl) (pn 4 rfl ?_)
  rw [iR1 hs]
  refine e_if_eq 12 dX6_at_4 (by decide) (fun c_9 => absurd c_9 (by decide)) (fun _ => pn 7 rfl ?_)
  refine e_iload_n dX6_at_7 rfl (pn 8 rfl ?_)
  refine e_ic (-1) dX6_at_8 (by decide) (pn 9 rfl ?_)
  refine e_icmp_ge 14 dX6_at_9 (by decide) (fun _ => ?_) (fun c_9 => absurd (by decide) c_9)
  refine e_aload_n dX6_at_14 rfl (pn 15 rfl ?_)
  refine e_get dX6_at_15 fl_X6_15 h.1.1 rfl (pn 18 rfl ?_)
  refine e_iload_n dX6_at_18 rfl (pn 19 rfl ?_)
  refine e_aald (s) dX6_at_19 h.1.2.1 rfl hs (by omega) (rf12_v hs) (pn 20 rfl ?_)
  refine s_an [_, _, _, _] dX6_at_20 (Nat.le_of_ble_eq_true rfl) rfl (pn 21 rfl ?_)
  refine e_iload_n dX6_at_21 rfl (pn 22 rfl ?_)
  refine e_ic (-1) dX6_at_22 (by decide) (pn 23 rfl ?_)
  refine e_icmp_ne 31 dX6_at_23 (by decide) (fun c_9 => absurd c_9 (by decide)) (fun _ => pn 26 rfl ?_)
  refine e_aload_n dX6_at_26 rfl (pn 27 rfl ?_)
  refine e_get dX6_at_27 fl_X6_74 hrow rfl (pn 30 rfl ?_)
  exact e_iret dX6_at_30 rfl rfl rfl
theorem X_at2 {w : Wd} {S : St} (hS : SI S) (h : XI w S) {s j : Nat} (hs : s < 12) (hj : j < 2 ^ 31) : CW mX6_at [.ref 1, .int (nI s), .int (nI j)] w (some (.int (if j < (S.2.1 s).length then nI ((S.2.1 s).getD j 0) else -4))) w := by
  have hrow := h.1.2.2 s hs
  have ok := hS.w hs
  have b1 := ok.1
  refine cw_of (M := mX6_at) fx_X6_at (lv := [.ref 1, .int (nI s), .int (nI j), dmy]) rfl (Nat.le_of_ble_eq_true rfl) ?_
  refine e_iload_n dX6_at_0 rfl (pn 1 rfl ?_)
  refine c_S1 dX6_at_1 ml_X6_62 ms_X6_isRegister (by decide) (x_isR w _) rfl rfl (Nat.le_of_ble_eq_true rfl) (pn 4 rfl ?_)
  rw [iR1 hs]
  refine e_if_eq 12 dX6_at_4 (by decide) (fun c_9 => absurd c_9 (by decide)) (fun _ => pn 7 rfl ?_)
  refine e_iload_n dX6_at_7 rfl (pn 8 rfl ?_)
  refine e_ic (-1) dX6_at_8 (by decide) (pn 9 rfl ?_)
  refine e_icmp_ge 14 dX6_at_9 (by decide) (fun _ => ?_) (fun c_9 => absurd (m1_le hj) c_9)
  refine e_aload_n dX6_at_14 rfl (pn 15 rfl ?_)
  refine e_get dX6_at_15 fl_X6_15 h.1.1 rfl (pn 18 rfl ?_)
  refine e_iload_n dX6_at_18 rfl (pn 19 rfl ?_)
  refine e_aald (s) dX6_at_19 h.1.2.1 rfl hs (by omega) (rf12_v hs) (pn 20 rfl ?_)
  refine s_an [_, _, _, _] dX6_at_20 (Nat.le_of_ble_eq_true rfl) rfl (pn 21 rfl ?_)
  refine e_iload_n dX6_at_21 rfl (pn 22 rfl ?_)
  refine e_ic (-1) dX6_at_22 (by decide) (pn 23 rfl ?_)
  refine e_icmp_ne 31 dX6_at_23 (by decide) (fun _ => ?_) (fun c_9 => absurd c_9 (fun e => by have h9 := nI_pos' hj; rw [e] at h9; revert h9; decide))
  refine e_iload_n dX6_at_31 rfl (pn 32 rfl ?_)
  refine e_aload_n dX6_at_32 rfl (pn 33 rfl ?_)
  refine e_get dX6_at_33 fl_X6_74 hrow rfl (pn 36 rfl ?_)
  refine e_icmp_ge 47 dX6_at_36 (by decide) (fun c36 => ?_) (fun c36 => pn 39 rfl ?_)
  · have hc : ¬ j < (S.2.1 s).length := fun e => nI_ge e (by omega) c36
    refine e_bi (-4) dX6_at_47 (by decide) (pn 49 rfl ?_)
    exact e_iret dX6_at_49 rfl (by rw [if_neg hc]) rfl
  · have hc : j < (S.2.1 s).length := Nat.lt_of_not_le (fun e => c36 (nI_le e (by omega)))
    refine e_aload_n dX6_at_39 rfl (pn 40 rfl ?_)
    refine e_iload_n dX6_at_40 rfl (pn 41 rfl ?_)
    refine c_V1 dX6_at_41 ml_X6_77 mv_X4_letter (by decide) (w_letter ok hrow (show j < 32 by omega)) hrow rfl rfl (Nat.le_of_ble_eq_true rfl) (pn 44 rfl ?_)
    refine e_goto 49 dX6_at_44 (by decide) ?_
    exact e_iret dX6_at_49 rfl (by rw [if_pos hc]) rfl
/-! edit -/
theorem X_edit0 (w : Wd) {s t k i l : Int32} (h : ¬ (rOK s ∧ rOK t)) : CW mX6_edit [.ref 1, .int s, .int t, .int k, .int i, .int l] w (some (.int (-1))) w := by
  refine cw_of (M := mX6_edit) fx_X6_edit (lv := [.ref 1, .int s, .int t, .int k, .int i, .int l, dmy]) rfl (Nat.le_of_ble_eq_true rfl) ?_
  refine e_iload_n dX6_edit_0 rfl (pn 1 rfl ?_)
  refine c_S1 dX6_edit_1 ml_X6_62 ms_X6_isRegister (by decide) (x_isR w s) rfl rfl (Nat.le_of_ble_eq_true rfl) (pn 4 rfl ?_)
  rcases r2_cases h with hs | ⟨hs, ht⟩
  · rw [iR0 hs]
    refine e_if_eq 32 dX6_edit_4 (by decide) (fun _ => ?_) (fun c_9 => absurd (by decide) c_9)
    refine e_ic (-1) dX6_edit_32 (by decide) (pn 33 rfl ?_)
    exact e_iret dX6_edit_33 rfl rfl rfl
  · rw [iRp hs]
    refine e_if_eq 32 dX6_edit_4 (by decide) (fun c_9 => absurd c_9 (by decide)) (fun _ => pn 7 rfl ?_)
    refine e_iload_n dX6_edit_7 rfl (pn 8 rfl ?_)
    refine c_S1 dX6_edit_8 ml_X6_62 ms_X6_isRegister (by decide) (x_isR w t) rfl rfl (Nat.le_of_ble_eq_true rfl) (pn 11 rfl ?_)
    rw [iR0 ht]
    refine e_if_eq 32 dX6_edit_11 (by decide) (fun _ => ?_) (fun c_9 => absurd (by decide) c_9)
    refine e_ic (-1) dX6_edit_32 (by decide) (pn 33 rfl ?_)
    exact e_iret dX6_edit_33 rfl rfl rfl
theorem X_edit1 {w : Wd} {S : St} (hS : SI S) (h : XI w S) {s t : Nat} (hs : s < 12) (ht : t < 12) {k i l : Int32} (hb : ¬ eN S.1 (S.2.1 t).length k i l) : CW mX6_edit [.ref 1, .int (nI s), .int (nI t), .int k, .int i, .int l] w (some (.int (-1))) w := by
  refine cw_of (M := mX6_edit) fx_X6_edit (lv := [.ref 1, .int (nI s), .int (nI t), .int k, .int i, .int l, dmy]) rfl (Nat.le_of_ble_eq_true rfl) ?_
  refine e_iload_n dX6_edit_0 rfl (pn 1 rfl ?_)
  refine c_S1 dX6_edit_1 ml_X6_62 ms_X6_isRegister (by decide) (x_isR w _) rfl rfl (Nat.le_of_ble_eq_true rfl) (pn 4 rfl ?_)
  rw [iR1 hs]
  refine e_if_eq 32 dX6_edit_4 (by decide) (fun c_9 => absurd c_9 (by decide)) (fun _ => pn 7 rfl ?_)
  refine e_iload_n dX6_edit_7 rfl (pn 8 rfl ?_)
  refine c_S1 dX6_edit_8 ml_X6_62 ms_X6_isRegister (by decide) (x_isR w _) rfl rfl (Nat.le_of_ble_eq_true rfl) (pn 11 rfl ?_)
  rw [iR1 ht]
  refine e_if_eq 32 dX6_edit_11 (by decide) (fun c_9 => absurd c_9 (by decide)) (fun _ => pn 14 rfl ?_)
  refine e_aload_n dX6_edit_14 rfl (pn 15 rfl ?_)
  refine e_aload_n dX6_edit_15 rfl (pn 16 rfl ?_)
  refine e_get dX6_edit_16 fl_X6_15 h.1.1 rfl (pn 19 rfl ?_)
  refine e_iload_n dX6_edit_19 rfl (pn 20 rfl ?_)
  refine e_aald (t) dX6_edit_20 h.1.2.1 rfl ht (by omega) (rf12_v ht) (pn 21 rfl ?_)
  refine e_iload_n dX6_edit_21 rfl (pn 22 rfl ?_)
  refine e_iload dX6_edit_22 rfl (pn 24 rfl ?_)
  refine e_iload dX6_edit_24 rfl (pn 26 rfl ?_)
  refine c_V1 dX6_edit_26 ml_X6_81 mv_X6_isEdit (by decide) (x_isE0 h.1.1 hS.1 (h.1.2.2 t ht) (hS.w ht).1 hb) h.1.1 rfl rfl (Nat.le_of_ble_eq_true rfl) (pn 29 rfl ?_)
  refine e_if_ne 34 dX6_edit_29 (by decide) (fun c_9 => absurd c_9 (by decide)) (fun _ => pn 32 rfl ?_)
  refine e_ic (-1) dX6_edit_32 (by decide) (pn 33 rfl ?_)
  exact e_iret dX6_edit_33 rfl rfl rfl
theorem X_editG {w : Wd} {S : St} (hS : SI S) (h : XI w S) {s t : Nat} (hs : s < 12) (ht : t < 12) {kd j l : Nat} (hk : kd ≤ 2) (hj : if kd = 1 then j ≤ (S.2.1 t).length else j < (S.2.1 t).length) (hl : kd = 0 ∨ l < S.1) {r : Option Value} {w' : Wd} (K : EW mX6_edit none 34 [.ref 1, .int (nI s), .int (nI t), .int (nI kd), .int (nI j), .int (nI l), dmy] [] w r w') : CW mX6_edit [.ref 1, .int (nI s), .int (nI t), .int (nI kd), .int (nI j), .int (nI l)] w r w' := by
  refine cw_of (M := mX6_edit) fx_X6_edit (lv := [.ref 1, .int (nI s), .int (nI t), .int (nI kd), .int (nI j), .int (nI l), dmy]) rfl (Nat.le_of_ble_eq_true rfl) ?_
  refine e_iload_n dX6_edit_0 rfl (pn 1 rfl ?_)
  refine c_S1 dX6_edit_1 ml_X6_62 ms_X6_isRegister (by decide) (x_isR w _) rfl rfl (Nat.le_of_ble_eq_true rfl) (pn 4 rfl ?_)
  rw [iR1 hs]
  refine e_if_eq 32 dX6_edit_4 (by decide) (fun c_9 => absurd c_9 (by decide)) (fun _ => pn 7 rfl ?_)
  refine e_iload_n dX6_edit_7 rfl (pn 8 rfl ?_)
  refine c_S1 dX6_edit_8 ml_X6_62 ms_X6_isRegister (by decide) (x_isR w _) rfl rfl (Nat.le_of_ble_eq_true rfl) (pn 11 rfl ?_)
  rw [iR1 ht]
  refine e_if_eq 32 dX6_edit_11 (by decide) (fun c_9 => absurd c_9 (by decide)) (fun _ => pn 14 rfl ?_)
  refine e_aload_n dX6_edit_14 rfl (pn 15 rfl ?_)
  refine e_aload_n dX6_edit_15 rfl (pn 16 rfl ?_)
  refine e_get dX6_edit_16 fl_X6_15 h.1.1 rfl (pn 19 rfl ?_)
  refine e_iload_n dX6_edit_19 rfl (pn 20 rfl ?_)
  refine e_aald (t) dX6_edit_20 h.1.2.1 rfl ht (by omega) (rf12_v ht) (pn 21 rfl ?_)
  refine e_iload_n dX6_edit_21 rfl (pn 22 rfl ?_)
  refine e_iload dX6_edit_22 rfl (pn 24 rfl ?_)
  refine e_iload dX6_edit_24 rfl (pn 26 rfl ?_)
  refine c_V1 dX6_edit_26 ml_X6_81 mv_X6_isEdit (by decide) (x_isE1 h.1.1 hS.1 (h.1.2.2 t ht) (hS.w ht).1 hk hj hl) h.1.1 rfl rfl (Nat.le_of_ble_eq_true rfl) (pn 29 rfl ?_)
  refine e_if_ne 34 dX6_edit_29 (by decide) (fun _ => ?_) (fun c_9 => absurd c_9 (by decide))
  exact K
theorem X_edit2 {w : Wd} {S : St} (hS : SI S) (h : XI w S) {s t : Nat} (hs : s < 12) (ht : t < 12) {j l : Nat} (hj : j ≤ (S.2.1 t).length) (hl : l < S.1) (h24 : (S.2.1 t).length = 24) : CW mX6_edit [.ref 1, .int (nI s), .int (nI t), .int (nI 1), .int (nI j), .int (nI l)] w (some (.int (-5))) w := by
  refine X_editG hS h hs ht (by decide) (by rw [if_pos rfl]; exact hj) (Or.inr hl) ?_
  have hrow := h.1.2.2 t ht
  have F := r_isFull hrow
  rw [h24, if_neg (by decide)] at F
  refine e_iload_n dX6_edit_34 rfl (pn 35 rfl ?_)
  refine e_ic (1) dX6_edit_35 (by decide) (pn 36 rfl ?_)
  refine e_icmp_ne 54 dX6_edit_36 (by decide) (fun c_9 => absurd c_9 (by decide)) (fun _ => pn 39 rfl ?_)
  refine e_aload_n dX6_edit_39 rfl (pn 40 rfl ?_)
  refine e_get dX6_edit_40 fl_X6_15 h.1.1 rfl (pn 43 rfl ?_)
  refine e_iload_n dX6_edit_43 rfl (pn 44 rfl ?_)
  refine e_aald (t) dX6_edit_44 h.1.2.1 rfl ht (by omega) (rf12_v ht) (pn 45 rfl ?_)
  refine c_V1 dX6_edit_45 ml_X6_85 mv_X4_isFull (by decide) F hrow rfl rfl (Nat.le_of_ble_eq_true rfl) (pn 48 rfl ?_)
  refine e_if_eq 54 dX6_edit_48 (by decide) (fun c_9 => absurd c_9 (by decide)) (fun _ => pn 51 rfl ?_)
  refine e_bi (-5) dX6_edit_51 (by decide) (pn 53 rfl ?_)
  exact e_iret dX6_edit_53 rfl rfl rfl
theorem X_edit3 {w : Wd} {S : St} (hS : SI S) (h : XI w S) {s t : Nat} (hs : s < 12) (ht : t < 12) {kd j l : Nat} (hk : kd ≤ 2) (hj : if kd = 1 then j ≤ (S.2.1 t).length else j < (S.2.1 t).length) (hl : kd = 0 ∨ l < S.1) (h24 : kd = 1 → (S.2.1 t).length < 24) : ∃ w1, CW mX6_edit [.ref 1, .int (nI s), .int (nI t), .int (nI kd), .int (nI j), .int (nI l)] w (some (.int (nI (edW (S.2.1 t) kd j l).length))) w1 ∧ FX w w1 ∧ XI w1 (sReg S s (edW (S.2.1 t) kd j l)) := by
  refine ⟨w.set (3 + s) (rowW (edW (S.2.1 t) kd j l)), X_editG hS h hs ht hk hj hl ?_, ag _ (by omega), h.reg hS hs _⟩
  have ok := hS.w ht
  have b1 := ok.1
  have hq := hS.1
  have hrs := h.1.2.2 s hs
  have hrt := h.1.2.2 t ht
  have g1 : (w.set (3 + s) (rowW (S.2.1 t)))[3 + s]? = some (rowW (S.2.1 t)) := gse hrs
  have g2 : (w.set (3 + s) (rowW (edW (S.2.1 t) kd j l)))[3 + s]? = some (rowW (edW (S.2.1 t) kd j l)) := gse hrs
  have go : EW mX6_edit none 54 [.ref 1, .int (nI s), .int (nI t), .int (nI kd), .int (nI j), .int (nI l), dmy] [] w (some (.int (nI (edW (S.2.1 t) kd j l).length))) (w.set (3 + s) (rowW (edW (S.2.1 t) kd j l))) := by
    refine e_aload_n dX6_edit_54 rfl (pn 55 rfl ?_)
    refine e_get dX6_edit_55 fl_X6_15 h.1.1 rfl (pn 58 rfl ?_)
    refine e_iload_n dX6_edit_58 rfl (pn 59 rfl ?_)
    refine e_aald (s) dX6_edit_59 h.1.2.1 rfl hs (by omega) (rf12_v hs) (pn 60 rfl ?_)
    refine s_a [_, _, _, _, _, _, _] dX6_edit_60 (Nat.le_of_ble_eq_true rfl) rfl (pn 62 rfl ?_)
    refine e_aload dX6_edit_62 rfl (pn 64 rfl ?_)
    refine e_aload_n dX6_edit_64 rfl (pn 65 rfl ?_)
    refine e_get dX6_edit_65 fl_X6_15 h.1.1 rfl (pn 68 rfl ?_)
    refine e_iload_n dX6_edit_68 rfl (pn 69 rfl ?_)
    refine e_aald (t) dX6_edit_69 h.1.2.1 rfl ht (by omega) (rf12_v ht) (pn 70 rfl ?_)
    refine c_V0 dX6_edit_70 ml_X6_89 mv_X4_become (by decide) (r_become hrs hrt) hrs rfl rfl (Nat.le_of_ble_eq_true rfl) (pn 73 rfl ?_)
    refine e_iload_n dX6_edit_73 rfl (pn 74 rfl ?_)
    have fin : EW mX6_edit none 113 [.ref 1, .int (nI s), .int (nI t), .int (nI kd), .int (nI j), .int (nI l), .ref (3 + s)] [] (w.set (3 + s) (rowW (edW (S.2.1 t) kd j l))) (some (.int (nI (edW (S.2.1 t) kd j l).length))) (w.set (3 + s) (rowW (edW (S.2.1 t) kd j l))) := by
      refine e_aload dX6_edit_113 rfl (pn 115 rfl ?_)
      refine e_get dX6_edit_115 fl_X6_74 g2 rfl (pn 118 rfl ?_)
      exact e_iret dX6_edit_118 rfl rfl rfl
    have h012 : kd = 0 ∨ kd = 1 ∨ kd = 2 := by omega
    rcases h012 with rfl | rfl | rfl
    · rw [if_neg (by decide)] at hj
      refine e_if_ne 87 dX6_edit_74 (by decide) (fun c_9 => absurd c_9 (by decide)) (fun _ => pn 77 rfl ?_)
      refine e_aload dX6_edit_77 rfl (pn 79 rfl ?_)
      refine e_iload dX6_edit_79 rfl (pn 81 rfl ?_)
      refine c_V0 dX6_edit_81 ml_X6_93 mv_X4_lose (by decide) (w_lose ok g1 hj) g1 rfl rfl (Nat.le_of_ble_eq_true rfl) (pn 84 rfl ?_)
      rw [List.set_set, ← edW_0 l hj]
      refine e_goto 113 dX6_edit_84 (by decide) ?_
      exact fin
    · rw [if_pos rfl] at hj
      have hl : l < S.1 := hl.resolve_left (by decide)
      refine e_if_ne 87 dX6_edit_74 (by decide) (fun _ => ?_) (fun c_9 => absurd c_9 (by decide))
      refine e_iload_n dX6_edit_87 rfl (pn 88 rfl ?_)
      refine e_ic (1) dX6_edit_88 (by decide) (pn 89 rfl ?_)
      refine e_icmp_ne 104 dX6_edit_89 (by decide) (fun c_9 => absurd c_9 (by decide)) (fun _ => pn 92 rfl ?_)
      refine e_aload dX6_edit_92 rfl (pn 94 rfl ?_)
      refine e_iload dX6_edit_94 rfl (pn 96 rfl ?_)
      refine e_iload dX6_edit_96 rfl (pn 98 rfl ?_)
      refine c_V0 dX6_edit_98 ml_X6_97 mv_X4_gain (by decide) (w_gain ok g1 hj (show l < 4 by omega)) g1 rfl rfl (Nat.le_of_ble_eq_true rfl) (pn 101 rfl ?_)
      rw [List.set_set, ← edW_1 l hj]
      refine e_goto 113 dX6_edit_101 (by decide) ?_
      exact fin
    · rw [if_neg (by decide)] at hj
      have hl : l < S.1 := hl.resolve_left (by decide)
      refine e_if_ne 87 dX6_edit_74 (by decide) (fun _ => ?_) (fun c_9 => absurd c_9 (by decide))
      refine e_iload_n dX6_edit_87 rfl (pn 88 rfl ?_)
      refine e_ic (1) dX6_edit_88 (by decide) (pn 89 rfl ?_)
      refine e_icmp_ne 104 dX6_edit_89 (by decide) (fun _ => ?_) (fun c_9 => absurd c_9 (by decide))
      refine e_aload dX6_edit_104 rfl (pn 106 rfl ?_)
      refine e_iload dX6_edit_106 rfl (pn 108 rfl ?_)
      refine e_iload dX6_edit_108 rfl (pn 110 rfl ?_)
      refine c_V0 dX6_edit_110 ml_X6_101 mv_X4_turn (by decide) (w_turn ok g1 hj (show l < 4 by omega)) g1 rfl rfl (Nat.le_of_ble_eq_true rfl) (pn 113 rfl ?_)
      rw [List.set_set, ← edW_2 l hj]
      exact fin
  refine e_iload_n dX6_edit_34 rfl (pn 35 rfl ?_)
  refine e_ic (1) dX6_edit_35 (by decide) (pn 36 rfl ?_)
  by_cases h1 : kd = 1
  · have F := r_isFull hrt
    rw [if_pos (show nI (S.2.1 t).length < 24 from nI_lt (b := 24) (h24 h1) (by decide))] at F
    refine e_icmp_ne 54 dX6_edit_36 (by decide) (fun c_9 => absurd c_9 (fun e => e (by rw [h1]; rfl))) (fun _ => pn 39 rfl ?_)
    refine e_aload_n dX6_edit_39 rfl (pn 40 rfl ?_)
    refine e_get dX6_edit_40 fl_X6_15 h.1.1 rfl (pn 43 rfl ?_)
    refine e_iload_n dX6_edit_43 rfl (pn 44 rfl ?_)
    refine e_aald (t) dX6_edit_44 h.1.2.1 rfl ht (by omega) (rf12_v ht) (pn 45 rfl ?_)
    refine c_V1 dX6_edit_45 ml_X6_85 mv_X4_isFull (by decide) F hrt rfl rfl (Nat.le_of_ble_eq_true rfl) (pn 48 rfl ?_)
    refine e_if_eq 54 dX6_edit_48 (by decide) (fun _ => ?_) (fun c_9 => absurd (by decide) c_9)
    exact go
  · refine e_icmp_ne 54 dX6_edit_36 (by decide) (fun _ => ?_) (fun c_9 => absurd c_9 (fun e => h1 ((nI_eq (b := 1) (by omega) (by decide)).mp e)))
    exact go
/-! sum, isOf, listed -/
theorem SI.cP {S : St} (h : SI S) (hn : S.2.2.1.1 ≠ 0) : cP S.1 S.2.2.1.1 S.2.2.1.2.1 S.2.2.1.2.2.1 (bNat S) (lmN S) := by
  have hq := h.1
  obtain ⟨⟨c1, c2, c3⟩, hb⟩ := h.2.2.1 (Nat.pos_of_ne_zero hn)
  refine ⟨hq, ⟨Nat.pos_of_ne_zero hn, c1⟩, c2, c3, ?_⟩
  rcases hb with ⟨b1, b2, b3⟩ | ⟨b1, b2, b3, b4⟩ <;> omega
theorem XI.cH {w : Wd} {S : St} (hS : SI S) (h : XI w S) (hn : S.2.2.1.1 ≠ 0) : ∃ wr len f, cH w wr len f S.1 S.2.2.1.1 S.2.2.1.2.1 S.2.2.1.2.2.1 (bNat S) (lmN S) (nI (szN S)) ∧ (∀ p, 1 ≤ p → RO S.1 S.2.2.1.1 S.2.2.1.2.1 S.2.2.1.2.2.1 (bNat S) (lmN S) f p) := by
  obtain ⟨wr, len, f, used, c1, c2, c3, -, -, -, c8⟩ := h.2.1
  obtain ⟨d1, d2, d3⟩ := c8 hn
  exact ⟨wr, len, f, ⟨d1, c2, d2, c3, hS.cP hn⟩, d3⟩
theorem XI.c15 {w : Wd} {S : St} (h : XI w S) : ∃ wr q m a b lm sz, w[15]? = some (cdF wr q S.2.2.1.1 m a b lm sz) := by
  obtain ⟨wr, len, f, used, c1, c2, c3, -, -, ⟨q, m, a, b, lm, sz, c7⟩, -⟩ := h.2.1
  exact ⟨wr, q, m, a, b, lm, sz, c7⟩
theorem SI.n31 {S : St} (h : SI S) : S.2.2.1.1 < 2 ^ 31 := by
  by_cases e : S.2.2.1.1 = 0
  · omega
  · have := h.n16 e; omega
theorem X_sum0 (w : Wd) {s : Int32} (h : ¬ rOK s) : CW mX6_sum [.ref 1, .int s] w (some (.int (-1))) w := by
  refine cw_of (M := mX6_sum) fx_X6_sum (lv := [.ref 1, .int s]) rfl (Nat.le_of_ble_eq_true rfl) ?_
  refine e_iload_n dX6_sum_0 rfl (pn 1 rfl ?_)
  refine c_S1 dX6_sum_1 ml_X6_62 ms_X6_isRegister (by decide) (x_isR w s) rfl rfl (Nat.le_of_ble_eq_true rfl) (pn 4 rfl ?_)
  rw [iR0 h]
  refine e_if_ne 9 dX6_sum_4 (by decide) (fun c_9 => absurd c_9 (by decide)) (fun _ => pn 7 rfl ?_)
  refine e_ic (-1) dX6_sum_7 (by decide) (pn 8 rfl ?_)
  exact e_iret dX6_sum_8 rfl rfl rfl
theorem X_sum1 {w : Wd} {S : St} (hS : SI S) (h : XI w S) {s : Nat} (hs : s < 12) : CW mX6_sum [.ref 1, .int (nI s)] w (some (.int (if S.2.2.1.1 = 0 then -2 else nI (smN S.1 (S.2.1 s) (S.2.1 s).length % S.2.2.1.2.1)))) w := by
  obtain ⟨wr, q0, m0, a0, b0, lm0, sz0, g15⟩ := h.c15
  have ST := d_stands g15 hS.n31
  refine cw_of (M := mX6_sum) fx_X6_sum (lv := [.ref 1, .int (nI s)]) rfl (Nat.le_of_ble_eq_true rfl) ?_
  refine e_iload_n dX6_sum_0 rfl (pn 1 rfl ?_)
  refine c_S1 dX6_sum_1 ml_X6_62 ms_X6_isRegister (by decide) (x_isR w _) rfl rfl (Nat.le_of_ble_eq_true rfl) (pn 4 rfl ?_)
  rw [iR1 hs]
  refine e_if_ne 9 dX6_sum_4 (by decide) (fun _ => ?_) (fun c_9 => absurd c_9 (by decide))
  by_cases hn : S.2.2.1.1 = 0
  · rw [if_pos hn] at ST
    refine e_aload_n dX6_sum_9 rfl (pn 10 rfl ?_)
    refine e_get dX6_sum_10 fl_X6_23 h.1.1 rfl (pn 13 rfl ?_)
    refine c_V1 dX6_sum_13 ml_X6_112 mv_X0_stands (by decide) ST g15 rfl rfl (Nat.le_of_ble_eq_true rfl) (pn 16 rfl ?_)
    refine e_if_eq 35 dX6_sum_16 (by decide) (fun _ => ?_) (fun c_9 => absurd (by decide) c_9)
    refine e_bi (-2) dX6_sum_35 (by decide) (pn 37 rfl ?_)
    exact e_iret dX6_sum_37 rfl (by rw [if_pos hn]) rfl
  · rw [if_neg hn] at ST
    obtain ⟨wr2, len, f, hH, -⟩ := h.cH hS hn
    have hm := hH.2.2.2.2.2.2.1
    refine e_aload_n dX6_sum_9 rfl (pn 10 rfl ?_)
    refine e_get dX6_sum_10 fl_X6_23 h.1.1 rfl (pn 13 rfl ?_)
    refine c_V1 dX6_sum_13 ml_X6_112 mv_X0_stands (by decide) ST g15 rfl rfl (Nat.le_of_ble_eq_true rfl) (pn 16 rfl ?_)
    refine e_if_eq 35 dX6_sum_16 (by decide) (fun c_9 => absurd c_9 (by decide)) (fun _ => pn 19 rfl ?_)
    refine e_aload_n dX6_sum_19 rfl (pn 20 rfl ?_)
    refine e_get dX6_sum_20 fl_X6_23 h.1.1 rfl (pn 23 rfl ?_)
    refine e_aload_n dX6_sum_23 rfl (pn 24 rfl ?_)
    refine e_get dX6_sum_24 fl_X6_15 h.1.1 rfl (pn 27 rfl ?_)
    refine e_iload_n dX6_sum_27 rfl (pn 28 rfl ?_)
    refine e_aald (s) dX6_sum_28 h.1.2.1 rfl hs (by omega) (rf12_v hs) (pn 29 rfl ?_)
    refine c_V1 dX6_sum_29 ml_X6_115 mv_X0_sumOf (by decide) (d_sumOf hH.1 hS.1.2 hm (h.1.2.2 s hs) (hS.w hs)) hH.1 rfl rfl (Nat.le_of_ble_eq_true rfl) (pn 32 rfl ?_)
    refine e_goto 37 dX6_sum_32 (by decide) ?_
    exact e_iret dX6_sum_37 rfl (by rw [if_neg hn, soV_sm (show 0 < S.2.2.1.2.1 by omega)]) rfl
theorem X_isOf0 (w : Wd) {s : Int32} (h : ¬ rOK s) : CW mX6_isOf [.ref 1, .int s] w (some (.int (-1))) w := by
  refine cw_of (M := mX6_isOf) fx_X6_isOf (lv := [.ref 1, .int s]) rfl (Nat.le_of_ble_eq_true rfl) ?_
  refine e_iload_n dX6_isOf_0 rfl (pn 1 rfl ?_)
  refine c_S1 dX6_isOf_1 ml_X6_62 ms_X6_isRegister (by decide) (x_isR w s) rfl rfl (Nat.le_of_ble_eq_true rfl) (pn 4 rfl ?_)
  rw [iR0 h]
  refine e_if_ne 9 dX6_isOf_4 (by decide) (fun c_9 => absurd c_9 (by decide)) (fun _ => pn 7 rfl ?_)
  refine e_ic (-1) dX6_isOf_7 (by decide) (pn 8 rfl ?_)
  exact e_iret dX6_isOf_8 rfl rfl rfl
theorem SI.hoI {S : St} (h : SI S) (hn : S.2.2.1.1 ≠ 0) (u : List Nat) : hoB S.1 S.2.2.1.1 S.2.2.1.2.1 S.2.2.1.2.2.1 (bNat S) (lmN S) u ↔ isM (mdS S 0) u := ho_is (D := mdS S 0) (h.2.2.1 (Nat.pos_of_ne_zero hn)).2 h.1 (h.cD hn 0).2.2.1.1 u
theorem X_isOf1 {w : Wd} {S : St} (hS : SI S) (h : XI w S) {s : Nat} (hs : s < 12) : CW mX6_isOf [.ref 1, .int (nI s)] w (some (.int (if S.2.2.1.1 = 0 then -2 else if isM (mdS S 0) (S.2.1 s) then 1 else 0))) w := by
  obtain ⟨wr, q0, m0, a0, b0, lm0, sz0, g15⟩ := h.c15
  have ST := d_stands g15 hS.n31
  refine cw_of (M := mX6_isOf) fx_X6_isOf (lv := [.ref 1, .int (nI s)]) rfl (Nat.le_of_ble_eq_true rfl) ?_
  refine e_iload_n dX6_isOf_0 rfl (pn 1 rfl ?_)
  refine c_S1 dX6_isOf_1 ml_X6_62 ms_X6_isRegister (by decide) (x_isR w _) rfl rfl (Nat.le_of_ble_eq_true rfl) (pn 4 rfl ?_)
  rw [iR1 hs]
  refine e_if_ne 9 dX6_isOf_4 (by decide) (fun _ => ?_) (fun c_9 => absurd c_9 (by decide))
  by_cases hn : S.2.2.1.1 = 0
  · rw [if_pos hn] at ST
    refine e_aload_n dX6_isOf_9 rfl (pn 10 rfl ?_)
    refine e_get dX6_isOf_10 fl_X6_23 h.1.1 rfl (pn 13 rfl ?_)
    refine c_V1 dX6_isOf_13 ml_X6_112 mv_X0_stands (by decide) ST g15 rfl rfl (Nat.le_of_ble_eq_true rfl) (pn 16 rfl ?_)
    refine e_if_ne 22 dX6_isOf_16 (by decide) (fun c_9 => absurd c_9 (by decide)) (fun _ => pn 19 rfl ?_)
    refine e_bi (-2) dX6_isOf_19 (by decide) (pn 21 rfl ?_)
    exact e_iret dX6_isOf_21 rfl (by rw [if_pos hn]) rfl
  · rw [if_neg hn] at ST
    obtain ⟨wr2, len, f, hH, -⟩ := h.cH hS hn
    have HO := d_holds hH.1 (hS.cP hn) (h.1.2.2 s hs) (hS.w hs)
    refine e_aload_n dX6_isOf_9 rfl (pn 10 rfl ?_)
    refine e_get dX6_isOf_10 fl_X6_23 h.1.1 rfl (pn 13 rfl ?_)
    refine c_V1 dX6_isOf_13 ml_X6_112 mv_X0_stands (by decide) ST g15 rfl rfl (Nat.le_of_ble_eq_true rfl) (pn 16 rfl ?_)
    refine e_if_ne 22 dX6_isOf_16 (by decide) (fun _ => ?_) (fun c_9 => absurd c_9 (by decide))
    rw [if_neg hn]
    by_cases hm : isM (mdS S 0) (S.2.1 s)
    · rw [if_pos ((hS.hoI hn _).mpr hm)] at HO
      rw [if_pos hm]
      refine e_aload_n dX6_isOf_22 rfl (pn 23 rfl ?_)
      refine e_get dX6_isOf_23 fl_X6_23 h.1.1 rfl (pn 26 rfl ?_)
      refine e_aload_n dX6_isOf_26 rfl (pn 27 rfl ?_)
      refine e_get dX6_isOf_27 fl_X6_15 h.1.1 rfl (pn 30 rfl ?_)
      refine e_iload_n dX6_isOf_30 rfl (pn 31 rfl ?_)
      refine e_aald (s) dX6_isOf_31 h.1.2.1 rfl hs (by omega) (rf12_v hs) (pn 32 rfl ?_)
      refine c_V1 dX6_isOf_32 ml_X6_119 mv_X0_holds (by decide) HO hH.1 rfl rfl (Nat.le_of_ble_eq_true rfl) (pn 35 rfl ?_)
      refine e_if_eq 42 dX6_isOf_35 (by decide) (fun c_9 => absurd c_9 (by decide)) (fun _ => pn 38 rfl ?_)
      refine e_ic (1) dX6_isOf_38 (by decide) (pn 39 rfl ?_)
      refine e_goto 43 dX6_isOf_39 (by decide) ?_
      exact e_iret dX6_isOf_43 rfl rfl rfl
    · rw [if_neg (fun e => hm ((hS.hoI hn _).mp e))] at HO
      rw [if_neg hm]
      refine e_aload_n dX6_isOf_22 rfl (pn 23 rfl ?_)
      refine e_get dX6_isOf_23 fl_X6_23 h.1.1 rfl (pn 26 rfl ?_)
      refine e_aload_n dX6_isOf_26 rfl (pn 27 rfl ?_)
      refine e_get dX6_isOf_27 fl_X6_15 h.1.1 rfl (pn 30 rfl ?_)
      refine e_iload_n dX6_isOf_30 rfl (pn 31 rfl ?_)
      refine e_aald (s) dX6_isOf_31 h.1.2.1 rfl hs (by omega) (rf12_v hs) (pn 32 rfl ?_)
      refine c_V1 dX6_isOf_32 ml_X6_119 mv_X0_holds (by decide) HO hH.1 rfl rfl (Nat.le_of_ble_eq_true rfl) (pn 35 rfl ?_)
      refine e_if_eq 42 dX6_isOf_35 (by decide) (fun _ => ?_) (fun c_9 => absurd (by decide) c_9)
      refine e_ic (0) dX6_isOf_42 (by decide) (pn 43 rfl ?_)
      exact e_iret dX6_isOf_43 rfl rfl rfl
theorem X_list0 (w : Wd) {s i : Int32} (h : ¬ (rOK s ∧ 0 ≤ i)) : CW mX6_listed [.ref 1, .int s, .int i] w (some (.int (-1))) w := by
  refine cw_of (M := mX6_listed) fx_X6_listed (lv := [.ref 1, .int s, .int i]) rfl (Nat.le_of_ble_eq_true rfl) ?_
  refine e_iload_n dX6_listed_0 rfl (pn 1 rfl ?_)
  refine c_S1 dX6_listed_1 ml_X6_62 ms_X6_isRegister (by decide) (x_isR w s) rfl rfl (Nat.le_of_ble_eq_true rfl) (pn 4 rfl ?_)
  by_cases hs : rOK s
  · rw [iRp hs]
    refine e_if_eq 11 dX6_listed_4 (by decide) (fun c_9 => absurd c_9 (by decide)) (fun _ => pn 7 rfl ?_)
    refine e_iload_n dX6_listed_7 rfl (pn 8 rfl ?_)
    refine e_if_ge 13 dX6_listed_8 (by decide) (fun c_9 => absurd c_9 (fun e => h ⟨hs, e⟩)) (fun _ => pn 11 rfl ?_)
    refine e_ic (-1) dX6_listed_11 (by decide) (pn 12 rfl ?_)
    exact e_iret dX6_listed_12 rfl rfl rfl
  · rw [iR0 hs]
    refine e_if_eq 11 dX6_listed_4 (by decide) (fun _ => ?_) (fun c_9 => absurd (by decide) c_9)
    refine e_ic (-1) dX6_listed_11 (by decide) (pn 12 rfl ?_)
    exact e_iret dX6_listed_12 rfl rfl rfl
theorem X_list1 {w : Wd} {S : St} (hS : SI S) (h : XI w S) {s i : Nat} (hs : s < 12) (hi : i < 2 ^ 31) (hn : S.2.2.1.1 = 0) : CW mX6_listed [.ref 1, .int (nI s), .int (nI i)] w (some (.int (-2))) w := by
  obtain ⟨wr, q0, m0, a0, b0, lm0, sz0, g15⟩ := h.c15
  have ST := d_stands g15 hS.n31
  rw [if_pos hn] at ST
  refine cw_of (M := mX6_listed) fx_X6_listed (lv := [.ref 1, .int (nI s), .int (nI i)]) rfl (Nat.le_of_ble_eq_true rfl) ?_
  refine e_iload_n dX6_listed_0 rfl (pn 1 rfl ?_)
  refine c_S1 dX6_listed_1 ml_X6_62 ms_X6_isRegister (by decide) (x_isR w _) rfl rfl (Nat.le_of_ble_eq_true rfl) (pn 4 rfl ?_)
  rw [iR1 hs]
  refine e_if_eq 11 dX6_listed_4 (by decide) (fun c_9 => absurd c_9 (by decide)) (fun _ => pn 7 rfl ?_)
  refine e_iload_n dX6_listed_7 rfl (pn 8 rfl ?_)
  refine e_if_ge 13 dX6_listed_8 (by decide) (fun _ => ?_) (fun c_9 => absurd (nI_pos' hi) c_9)
  refine e_aload_n dX6_listed_13 rfl (pn 14 rfl ?_)
  refine e_get dX6_listed_14 fl_X6_23 h.1.1 rfl (pn 17 rfl ?_)
  refine c_V1 dX6_listed_17 ml_X6_112 mv_X0_stands (by decide) ST g15 rfl rfl (Nat.le_of_ble_eq_true rfl) (pn 20 rfl ?_)
  refine e_if_ne 26 dX6_listed_20 (by decide) (fun c_9 => absurd c_9 (by decide)) (fun _ => pn 23 rfl ?_)
  refine e_bi (-2) dX6_listed_23 (by decide) (pn 25 rfl ?_)
  exact e_iret dX6_listed_25 rfl rfl rfl
theorem SI.szle {S : St} (hS : SI S) (hn : S.2.2.1.1 ≠ 0) : szN S ≤ 2 ^ 30 := wy_le hS.1 (fun e => by show (if S.1 = 2 then 1 else S.1) = 4; rw [if_neg (by omega)]; exact e) (hS.n16 hn) _ _ _ _
theorem X_list2 {w : Wd} {S : St} (hS : SI S) (h : XI w S) {s i : Nat} (hs : s < 12) (hi : i < 2 ^ 31) (hn : S.2.2.1.1 ≠ 0) (hz : szN S ≤ i) : CW mX6_listed [.ref 1, .int (nI s), .int (nI i)] w (some (.int (-4))) w := by
  obtain ⟨wr, len, f, hH, -⟩ := h.cH hS hn
  have ST := d_stands hH.1 hS.n31
  rw [if_neg hn] at ST
  refine cw_of (M := mX6_listed) fx_X6_listed (lv := [.ref 1, .int (nI s), .int (nI i)]) rfl (Nat.le_of_ble_eq_true rfl) ?_
  refine e_iload_n dX6_listed_0 rfl (pn 1 rfl ?_)
  refine c_S1 dX6_listed_1 ml_X6_62 ms_X6_isRegister (by decide) (x_isR w _) rfl rfl (Nat.le_of_ble_eq_true rfl) (pn 4 rfl ?_)
  rw [iR1 hs]
  refine e_if_eq 11 dX6_listed_4 (by decide) (fun c_9 => absurd c_9 (by decide)) (fun _ => pn 7 rfl ?_)
  refine e_iload_n dX6_listed_7 rfl (pn 8 rfl ?_)
  refine e_if_ge 13 dX6_listed_8 (by decide) (fun _ => ?_) (fun c_9 => absurd (nI_pos' hi) c_9)
  refine e_aload_n dX6_listed_13 rfl (pn 14 rfl ?_)
  refine e_get dX6_listed_14 fl_X6_23 h.1.1 rfl (pn 17 rfl ?_)
  refine c_V1 dX6_listed_17 ml_X6_112 mv_X0_stands (by decide) ST hH.1 rfl rfl (Nat.le_of_ble_eq_true rfl) (pn 20 rfl ?_)
  refine e_if_ne 26 dX6_listed_20 (by decide) (fun _ => ?_) (fun c_9 => absurd c_9 (by decide))
  refine e_iload_n dX6_listed_26 rfl (pn 27 rfl ?_)
  refine e_aload_n dX6_listed_27 rfl (pn 28 rfl ?_)
  refine e_get dX6_listed_28 fl_X6_23 h.1.1 rfl (pn 31 rfl ?_)
  refine e_get dX6_listed_31 fl_X6_111 hH.1 rfl (pn 34 rfl ?_)
  refine e_icmp_lt 40 dX6_listed_34 (by decide) (fun c_9 => absurd c_9 (nI_nlt hz hi)) (fun _ => pn 37 rfl ?_)
  refine e_bi (-4) dX6_listed_37 (by decide) (pn 39 rfl ?_)
  exact e_iret dX6_listed_39 rfl rfl rfl
theorem X_list3 {w : Wd} {S : St} (hS : SI S) (h : XI w S) {s i : Nat} (hs : s < 12) (hn : S.2.2.1.1 ≠ 0) (hz : i < szN S) : ∃ w1, CW mX6_listed [.ref 1, .int (nI s), .int (nI i)] w (some (.int (nI S.2.2.1.1))) w1 ∧ FX w w1 ∧ XI w1 (sReg S s (wpO S.1 S.2.2.1.1 S.2.2.1.2.1 S.2.2.1.2.2.1 (bNat S) (lmN S) S.2.2.1.1 1 i 0 0 0 [])) := by
  obtain ⟨wr, len, f, hH, hR⟩ := h.cH hS hn
  have hsz := hS.szle hn
  have hP := hS.cP hn
  have ST := d_stands hH.1 hS.n31
  rw [if_neg hn] at ST
  have hrow := h.1.2.2 s hs
  have WR := d_write hH hrow (nI i)
  have h4 : S.1 = 4 → lmN S = 4 := fun e => by show (if S.1 = 2 then 1 else S.1) = 4; rw [if_neg (by omega)]; exact e
  rw [wr_wp hS.1 h4 (hS.n16 hn) hP.2.2.1.1 hP.2.2.2.2.2.1 hR S.2.2.1.1 1 i 0 0 0 [] (by omega) (Nat.le_refl _) hP.2.2.1.1 hz] at WR
  obtain ⟨oL, -⟩ := wpO_ok S.1 S.2.2.1.1 S.2.2.1.2.1 S.2.2.1.2.2.1 (bNat S) (lmN S) hS.1.1 S.2.2.1.1 1 i 0 0 0 []
  simp only [List.length_nil, Nat.zero_add] at oL
  have X1 := h.reg hS hs (wpO S.1 S.2.2.1.1 S.2.2.1.2.1 S.2.2.1.2.2.1 (bNat S) (lmN S) S.2.2.1.1 1 i 0 0 0 [])
  refine ⟨_, ?_, ag _ (by omega), X1⟩
  refine cw_of (M := mX6_listed) fx_X6_listed (lv := [.ref 1, .int (nI s), .int (nI i)]) rfl (Nat.le_of_ble_eq_true rfl) ?_
  refine e_iload_n dX6_listed_0 rfl (pn 1 rfl ?_)
  refine c_S1 dX6_listed_1 ml_X6_62 ms_X6_isRegister (by decide) (x_isR w _) rfl rfl (Nat.le_of_ble_eq_true rfl) (pn 4 rfl ?_)
  rw [iR1 hs]
  refine e_if_eq 11 dX6_listed_4 (by decide) (fun c_9 => absurd c_9 (by decide)) (fun _ => pn 7 rfl ?_)
  refine e_iload_n dX6_listed_7 rfl (pn 8 rfl ?_)
  refine e_if_ge 13 dX6_listed_8 (by decide) (fun _ => ?_) (fun c_9 => absurd (nI_pos' (by omega)) c_9)
  refine e_aload_n dX6_listed_13 rfl (pn 14 rfl ?_)
  refine e_get dX6_listed_14 fl_X6_23 h.1.1 rfl (pn 17 rfl ?_)
  refine c_V1 dX6_listed_17 ml_X6_112 mv_X0_stands (by decide) ST hH.1 rfl rfl (Nat.le_of_ble_eq_true rfl) (pn 20 rfl ?_)
  refine e_if_ne 26 dX6_listed_20 (by decide) (fun _ => ?_) (fun c_9 => absurd c_9 (by decide))
  refine e_iload_n dX6_listed_26 rfl (pn 27 rfl ?_)
  refine e_aload_n dX6_listed_27 rfl (pn 28 rfl ?_)
  refine e_get dX6_listed_28 fl_X6_23 h.1.1 rfl (pn 31 rfl ?_)
  refine e_get dX6_listed_31 fl_X6_111 hH.1 rfl (pn 34 rfl ?_)
  refine e_icmp_lt 40 dX6_listed_34 (by decide) (fun _ => ?_) (fun c_9 => absurd (nI_lt hz (by omega)) c_9)
  refine e_aload_n dX6_listed_40 rfl (pn 41 rfl ?_)
  refine e_get dX6_listed_41 fl_X6_23 h.1.1 rfl (pn 44 rfl ?_)
  refine e_iload_n dX6_listed_44 rfl (pn 45 rfl ?_)
  refine e_aload_n dX6_listed_45 rfl (pn 46 rfl ?_)
  refine e_get dX6_listed_46 fl_X6_15 h.1.1 rfl (pn 49 rfl ?_)
  refine e_iload_n dX6_listed_49 rfl (pn 50 rfl ?_)
  refine e_aald (s) dX6_listed_50 h.1.2.1 rfl hs (by omega) (rf12_v hs) (pn 51 rfl ?_)
  refine c_V0 dX6_listed_51 ml_X6_123 mv_X0_write (by decide) WR hH.1 rfl rfl (Nat.le_of_ble_eq_true rfl) (pn 54 rfl ?_)
  refine e_aload_n dX6_listed_54 rfl (pn 55 rfl ?_)
  refine e_get dX6_listed_55 fl_X6_15 X1.1.1 rfl (pn 58 rfl ?_)
  refine e_iload_n dX6_listed_58 rfl (pn 59 rfl ?_)
  refine e_aald (s) dX6_listed_59 X1.1.2.1 rfl hs (by omega) (rf12_v hs) (pn 60 rfl ?_)
  refine e_get dX6_listed_60 fl_X6_74 (gse hrow) rfl (pn 63 rfl ?_)
  exact e_iret dX6_listed_63 rfl (by rw [oL]) rfl
