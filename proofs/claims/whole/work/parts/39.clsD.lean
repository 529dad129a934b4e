/-! trace, noTraces -/
theorem XI.inT {w w1 : Wd} {S S2 : St} (h : XI w S) (hg : ∀ i, i < 26 ∨ 38 < i → w1[i]? = w[i]?) (hl : w1.length = w.length) (ht : tot w1 = tot w) (e : S2.1 = S.1 ∧ S2.2.1 = S.2.1 ∧ S2.2.2.1 = S.2.2.1 ∧ S2.2.2.2.2 = S.2.2.2.2) (hT : XT w1 S2) : XI w1 S2 := by
  obtain ⟨q, reg, cd, tr, rest⟩ := S2
  obtain ⟨e1, e2, e3, e4⟩ := e
  have e1 : q = S.1 := e1
  have e2 : reg = S.2.1 := e2
  have e3 : cd = S.2.2.1 := e3
  have e4 : rest = S.2.2.2.2 := e4
  subst e1; subst e2; subst e3; subst e4
  exact ⟨h.1.fr (fun i _ _ => hg i (by omega)), h.2.1.fr (fun i _ _ => hg i (by omega)) (fun i _ => hg i (by omega)) hl ht, h.2.2.1.fr (fun i _ _ => hg i (by omega)), h.2.2.2.1.fr (fun i _ _ => hg i (by omega)), hT, h.2.2.2.2.2.fr (fun i _ _ => hg i (by omega))⟩
theorem X_tr0 (w : Wd) {s : Int32} (h : ¬ rOK s) : CW mX6_trace [.ref 1, .int s] w (some (.int (-1))) w := by
  refine cw_of (M := mX6_trace) fx_X6_trace (lv := [.ref 1, .int s]) rfl (Nat.le_of_ble_eq_true rfl) ?_
  refine e_iload_n dX6_trace_0 rfl (pn 1 rfl ?_)
  refine c_S1 dX6_trace_1 ml_X6_62 ms_X6_isRegister (by decide) (x_isR w s) rfl rfl (Nat.le_of_ble_eq_true rfl) (pn 4 rfl ?_)
  rw [iR0 h]
  refine e_if_ne 9 dX6_trace_4 (by decide) (fun c_9 => absurd c_9 (by decide)) (fun _ => pn 7 rfl ?_)
  refine e_ic (-1) dX6_trace_7 (by decide) (pn 8 rfl ?_)
  exact e_iret dX6_trace_8 rfl rfl rfl
theorem X_tr1 {w : Wd} {S : St} (h : XI w S) {s : Nat} (hs : s < 12) (h8 : S.2.2.2.1.1 = 8) : CW mX6_trace [.ref 1, .int (nI s)] w (some (.int (-3))) w := by
  obtain ⟨tq, tn, fd, bp, t1⟩ := h.2.2.2.2.1.1
  refine cw_of (M := mX6_trace) fx_X6_trace (lv := [.ref 1, .int (nI s)]) rfl (Nat.le_of_ble_eq_true rfl) ?_
  refine e_iload_n dX6_trace_0 rfl (pn 1 rfl ?_)
  refine c_S1 dX6_trace_1 ml_X6_62 ms_X6_isRegister (by decide) (x_isR w _) rfl rfl (Nat.le_of_ble_eq_true rfl) (pn 4 rfl ?_)
  rw [iR1 hs]
  refine e_if_ne 9 dX6_trace_4 (by decide) (fun _ => ?_) (fun c_9 => absurd c_9 (by decide))
  refine e_aload_n dX6_trace_9 rfl (pn 10 rfl ?_)
  refine e_get dX6_trace_10 fl_X6_44 h.1.1 rfl (pn 13 rfl ?_)
  refine e_get dX6_trace_13 fl_X6_165 t1 rfl (pn 16 rfl ?_)
  refine e_bi (8) dX6_trace_16 (by decide) (pn 18 rfl ?_)
  refine e_icmp_ne 24 dX6_trace_18 (by decide) (fun c_9 => absurd c_9 (fun e => e (by rw [h8]; rfl))) (fun _ => pn 21 rfl ?_)
  refine e_bi (-3) dX6_trace_21 (by decide) (pn 23 rfl ?_)
  exact e_iret dX6_trace_23 rfl rfl rfl
theorem X_tr2 {w : Wd} {S : St} (h : XI w S) {s : Nat} (hs : s < 12) (h8 : S.2.2.2.1.1 < 8) : ∃ w1, CW mX6_trace [.ref 1, .int (nI s)] w (some (.int (nI (S.2.2.2.1.1 + 1)))) w1 ∧ FX w w1 ∧ XI w1 (sTr S (S.2.2.2.1.1 + 1, va_up S.2.2.2.1.2 S.2.2.2.1.1 (S.2.1 s))) := by
  obtain ⟨⟨tq, tn, fd, bp, t1⟩, t2, t3, t4, ⟨e, t5⟩, ⟨v37, t6, t7⟩, ⟨v38, t8, t9⟩⟩ := id h.2.2.2.2.1
  obtain ⟨v, hv⟩ := t3 S.2.2.2.1.1 h8
  have hrow := h.1.2.2 s hs
  have K := t_keep t1 t2 (fun k hk => rf8_v hk) h8 hv hrow
  have g26 : ((w.set (28 + S.2.2.2.1.1) (rowW (S.2.1 s))).set 26 (tcF (S.2.2.2.1.1 + 1) tq tn fd bp))[26]? = some (tcF (S.2.2.2.1.1 + 1) tq tn fd bp) := gse (gne (by omega) t1)
  have G : ∀ i, i < 26 ∨ 38 < i → ((w.set (28 + S.2.2.2.1.1) (rowW (S.2.1 s))).set 26 (tcF (S.2.2.2.1.1 + 1) tq tn fd bp))[i]? = w[i]? := fun i hi => by
    rw [List.getElem?_set_ne (by omega), List.getElem?_set_ne (by omega)]
  have g1 := (G 1 (by decide)).trans h.1.1
  refine ⟨_, ?_, fun i a b => G i (by omega), h.inT G (by rw [List.length_set, List.length_set]) (Eq.trans (tot_set _ _ _ _ (gne (by omega) t1) (by rfl)) (tot_set _ _ _ _ hv (by rfl))) ⟨rfl, rfl, rfl, rfl⟩ ⟨⟨tq, tn, fd, bp, g26⟩, gne (by decide) (gne (by omega) t2), fun k hk => ?_, fun k hk => ?_, ⟨e, gne (by decide) (gne (by omega) t5)⟩, ⟨v37, gne (by decide) (gne (by omega) t6), t7⟩, ⟨v38, gne (by decide) (gne (by omega) t8), t9⟩⟩⟩
  · refine cw_of (M := mX6_trace) fx_X6_trace (lv := [.ref 1, .int (nI s)]) rfl (Nat.le_of_ble_eq_true rfl) ?_
    refine e_iload_n dX6_trace_0 rfl (pn 1 rfl ?_)
    refine c_S1 dX6_trace_1 ml_X6_62 ms_X6_isRegister (by decide) (x_isR w _) rfl rfl (Nat.le_of_ble_eq_true rfl) (pn 4 rfl ?_)
    rw [iR1 hs]
    refine e_if_ne 9 dX6_trace_4 (by decide) (fun _ => ?_) (fun c_9 => absurd c_9 (by decide))
    refine e_aload_n dX6_trace_9 rfl (pn 10 rfl ?_)
    refine e_get dX6_trace_10 fl_X6_44 h.1.1 rfl (pn 13 rfl ?_)
    refine e_get dX6_trace_13 fl_X6_165 t1 rfl (pn 16 rfl ?_)
    refine e_bi (8) dX6_trace_16 (by decide) (pn 18 rfl ?_)
    refine e_icmp_ne 24 dX6_trace_18 (by decide) (fun _ => ?_) (fun c_9 => absurd c_9 (fun e => by have := (nI_eq (b := 8) (by omega) (by decide)).mp e; omega))
    refine e_aload_n dX6_trace_24 rfl (pn 25 rfl ?_)
    refine e_get dX6_trace_25 fl_X6_44 h.1.1 rfl (pn 28 rfl ?_)
    refine e_aload_n dX6_trace_28 rfl (pn 29 rfl ?_)
    refine e_get dX6_trace_29 fl_X6_15 h.1.1 rfl (pn 32 rfl ?_)
    refine e_iload_n dX6_trace_32 rfl (pn 33 rfl ?_)
    refine e_aald (s) dX6_trace_33 h.1.2.1 rfl hs (by omega) (rf12_v hs) (pn 34 rfl ?_)
    refine c_V0 dX6_trace_34 ml_X6_166 mv_X5_keep (by decide) K t1 rfl rfl (Nat.le_of_ble_eq_true rfl) (pn 37 rfl ?_)
    refine e_aload_n dX6_trace_37 rfl (pn 38 rfl ?_)
    refine e_get dX6_trace_38 fl_X6_44 g1 rfl (pn 41 rfl ?_)
    refine e_get dX6_trace_41 fl_X6_165 g26 rfl (pn 44 rfl ?_)
    exact e_iret dX6_trace_44 rfl rfl rfl
  · by_cases ek : k = S.2.2.2.1.1
    · subst ek; exact ⟨_, gne (by omega) (gse hv)⟩
    · obtain ⟨v', h'⟩ := t3 k hk
      exact ⟨v', gne (by omega) (gne (by omega) h')⟩
  · have hk : k < S.2.2.2.1.1 + 1 := hk
    show _ = some (rowW (va_up S.2.2.2.1.2 S.2.2.2.1.1 (S.2.1 s) k))
    by_cases ek : k = S.2.2.2.1.1
    · rw [ek, up_eq]; exact gne (by omega) (gse hv)
    · rw [up_ne _ _ ek]; exact gne (by omega) (gne (by omega) (t4 k (by omega)))
theorem X_noT {w : Wd} {S : St} (h : XI w S) : ∃ w1, CW mX6_noTraces [.ref 1] w (some (.int (nI S.2.2.2.1.1))) w1 ∧ FX w w1 ∧ XI w1 (sTr S (0, S.2.2.2.1.2)) := by
  obtain ⟨⟨tq, tn, fd, bp, t1⟩, t2, t3, t4, ⟨e, t5⟩, ⟨v37, t6, t7⟩, ⟨v38, t8, t9⟩⟩ := id h.2.2.2.2.1
  have G : ∀ i, i < 26 ∨ 38 < i → (w.set 26 (tcF 0 tq tn fd bp))[i]? = w[i]? := fun i hi => List.getElem?_set_ne (by omega)
  refine ⟨_, ?_, ag _ (by decide), h.inT G List.length_set (tot_set _ _ _ _ t1 (by rfl)) ⟨rfl, rfl, rfl, rfl⟩ ⟨⟨tq, tn, fd, bp, gse t1⟩, gne (by decide) t2, fun k hk => ?_, fun k hk => absurd hk (Nat.not_lt_zero k), ⟨e, gne (by decide) t5⟩, ⟨v37, gne (by decide) t6, t7⟩, ⟨v38, gne (by decide) t8, t9⟩⟩⟩
  · refine cw_of (M := mX6_noTraces) fx_X6_noTraces (lv := [.ref 1, dmy]) rfl (Nat.le_of_ble_eq_true rfl) ?_
    refine e_aload_n dX6_noTraces_0 rfl (pn 1 rfl ?_)
    refine e_get dX6_noTraces_1 fl_X6_44 h.1.1 rfl (pn 4 rfl ?_)
    refine e_get dX6_noTraces_4 fl_X6_165 t1 rfl (pn 7 rfl ?_)
    refine s_in [_, _] dX6_noTraces_7 (Nat.le_of_ble_eq_true rfl) rfl (pn 8 rfl ?_)
    refine e_aload_n dX6_noTraces_8 rfl (pn 9 rfl ?_)
    refine e_get dX6_noTraces_9 fl_X6_44 h.1.1 rfl (pn 12 rfl ?_)
    refine c_V0 dX6_noTraces_12 ml_X6_61 mv_X5_forget (by decide) (t_forget t1) t1 rfl rfl (Nat.le_of_ble_eq_true rfl) (pn 15 rfl ?_)
    refine e_iload_n dX6_noTraces_15 rfl (pn 16 rfl ?_)
    exact e_iret dX6_noTraces_16 rfl rfl rfl
  · obtain ⟨v', h'⟩ := t3 k hk
    exact ⟨v', gne (by omega) h'⟩
/-! near, mend -/
theorem stN_b (q n m a b lm : Nat) (v : List Nat) (st : NS) : (stN q n m a b lm v st).1 ≤ st.1 + 1 := by
  unfold stN
  split
  · exact Nat.le_refl _
  · exact Nat.le_succ _
theorem ntI_b (q n m a b lm : Nat) (u : List Nat) (i : Nat) : ∀ (k l : Nat) (st : NS), (ntI q n m a b lm u i k l st).1 ≤ st.1 + k
  | 0, l, st => Nat.le_refl _
  | k + 1, l, st => by
    rw [ntI]
    have h := ntI_b q n m a b lm u i k (l + 1) (if l = u.getD i 0 then st else stN q n m a b lm (u.set i l) st)
    have h2 := stN_b q n m a b lm (u.set i l) st
    split at h <;> split <;> omega
theorem ntO_b (q n m a b lm : Nat) (u : List Nat) : ∀ (k i : Nat) (st : NS), (ntO q n m a b lm u k i st).1 ≤ st.1 + k * q
  | 0, i, st => by rw [ntO]; omega
  | k + 1, i, st => by
    rw [ntO]
    have h := ntO_b q n m a b lm u k (i + 1) (ntI q n m a b lm u i q 0 st)
    have h2 := ntI_b q n m a b lm u i q 0 st
    rw [Nat.succ_mul]
    omega
theorem ngO_b (q n m a b lm : Nat) (u : List Nat) : ∀ (k i : Nat) (st : NS), (ngO q n m a b lm u k i st).1 ≤ st.1 + k
  | 0, i, st => Nat.le_refl _
  | k + 1, i, st => by
    rw [ngO]
    have h := ngO_b q n m a b lm u k (i + 1) (if ngC u i then stN q n m a b lm (u.eraseIdx i) st else st)
    have h2 := stN_b q n m a b lm (u.eraseIdx i) st
    split at h <;> split <;> omega
theorem nlI_b (q n m a b lm : Nat) (u : List Nat) (i : Nat) : ∀ (k l : Nat) (st : NS), (nlI q n m a b lm u i k l st).1 ≤ st.1 + k
  | 0, l, st => Nat.le_refl _
  | k + 1, l, st => by
    rw [nlI]
    have h := nlI_b q n m a b lm u i k (l + 1) (if nlC u i l then stN q n m a b lm (u.insertIdx i l) st else st)
    have h2 := stN_b q n m a b lm (u.insertIdx i l) st
    split at h <;> split <;> omega
theorem nlO_b (q n m a b lm : Nat) (u : List Nat) : ∀ (k i : Nat) (st : NS), (nlO q n m a b lm u k i st).1 ≤ st.1 + k * q
  | 0, i, st => by rw [nlO]; omega
  | k + 1, i, st => by
    rw [nlO]
    have h := nlO_b q n m a b lm u k (i + 1) (nlI q n m a b lm u i q 0 st)
    have h2 := nlI_b q n m a b lm u i q 0 st
    rw [Nat.succ_mul]
    omega
theorem nbV_b {q : Nat} (hq : q ≤ 4) (n m a b lm : Nat) {u : List Nat} (hu : u.length ≤ 24) (st : NS) (h0 : st.1 = 0) : (nbV q n m a b lm u st).1 ≤ 100 := by
  have h1 := ntO_b q n m a b lm u u.length 0 st
  have h2 := ngO_b q n m a b lm u u.length 0 st
  have h3 := nlO_b q n m a b lm u (u.length + 1) 0 st
  have m1 : u.length * q ≤ 24 * 4 := Nat.mul_le_mul hu hq
  have m2 : (u.length + 1) * q ≤ 25 * 4 := Nat.mul_le_mul (by omega) hq
  unfold nbV
  split
  · omega
  · split
    · omega
    · split <;> omega
theorem XI.nH {w : Wd} {S : St} (hS : SI S) (h : XI w S) (hn : S.2.2.1.1 ≠ 0) {t : Nat} (ht : t < 12) : ∃ (wr : Nat) (v z : List Nat), nH w wr S.1 S.2.2.1.1 S.2.2.1.2.1 S.2.2.1.2.2.1 (bNat S) (lmN S) (nI (szN S)) (3 + t) (S.2.1 t) ∧ w[16]? = some (rowW v) ∧ w[17]? = some (rowW z) := by
  obtain ⟨wr, len, f, used, c1, c2, c3, ⟨⟨v, h16⟩, ⟨z, h17⟩⟩, -, -, c8⟩ := h.2.1
  obtain ⟨d1, -, -⟩ := c8 hn
  exact ⟨wr, v, z, ⟨d1, hS.cP hn, h.1.2.2 t ht, hS.w ht, by omega, by omega, ⟨v, h16⟩, ⟨z, h17⟩⟩, h16, h17⟩
theorem XI.s1617 {w : Wd} {S : St} (hS : SI S) (h : XI w S) (st : NS) : XI (wN w st) S ∧ FX w (wN w st) := by
  obtain ⟨hA, ⟨wr, len, f, used, c1, c2, c3, ⟨⟨v, h16⟩, ⟨z, h17⟩⟩, c6, c7⟩, hP, hQ, hT, hL⟩ := h
  have g16 : (wN w st)[16]? = some (rowW st.2.1) := gne (by decide) (gse h16)
  have g17 : (wN w st)[17]? = some (rowW st.2.2) := gse (e0 := rowW z) (gne (by decide) h17)
  have G : ∀ i, i < 16 ∨ 17 < i → (wN w st)[i]? = w[i]? := fun i hi => by
    show ((w.set 16 (rowW st.2.1)).set 17 (rowW st.2.2))[i]? = _
    rw [List.getElem?_set_ne (by omega), List.getElem?_set_ne (by omega)]
  have hl : (wN w st).length = w.length := by show ((w.set 16 (rowW st.2.1)).set 17 (rowW st.2.2)).length = _; rw [List.length_set, List.length_set]
  have ht : tot (wN w st) = tot w := (tot_set _ _ _ (rowW st.2.2) (gne (by decide) h17) rfl).trans (tot_set _ _ _ (rowW st.2.1) h16 rfl)
  refine ⟨⟨hA.fr (fun i _ _ => G i (by omega)), ⟨wr, len, f, used, c1, by rw [G wr (by omega)]; exact c2, c3, ⟨⟨_, g16⟩, ⟨_, g17⟩⟩, by rw [hl, ht]; exact c6, ?_⟩, hP.fr (fun i _ _ => G i (by omega)), hQ.fr (fun i _ _ => G i (by omega)), hT.fr hS.2.2.2.1.1 (fun i _ _ => G i (by omega)), hL.fr (fun i _ _ => G i (by omega))⟩, fun i _ _ => G i (by omega)⟩
  unfold XCs at c7 ⊢
  rw [G 15 (by decide)]
  exact c7
theorem X_near0 (w : Wd) {s : Int32} (h : ¬ rOK s) : CW mX6_near [.ref 1, .int s] w (some (.int (-1))) w := by
  refine cw_of (M := mX6_near) fx_X6_near (lv := [.ref 1, .int s]) rfl (Nat.le_of_ble_eq_true rfl) ?_
  refine e_iload_n dX6_near_0 rfl (pn 1 rfl ?_)
  refine c_S1 dX6_near_1 ml_X6_62 ms_X6_isRegister (by decide) (x_isR w s) rfl rfl (Nat.le_of_ble_eq_true rfl) (pn 4 rfl ?_)
  rw [iR0 h]
  refine e_if_ne 9 dX6_near_4 (by decide) (fun c_9 => absurd c_9 (by decide)) (fun _ => pn 7 rfl ?_)
  refine e_ic (-1) dX6_near_7 (by decide) (pn 8 rfl ?_)
  exact e_iret dX6_near_8 rfl rfl rfl
theorem X_near1 {w : Wd} {S : St} (hS : SI S) (h : XI w S) {t : Nat} (ht : t < 12) (hn : S.2.2.1.1 = 0) : CW mX6_near [.ref 1, .int (nI t)] w (some (.int (-2))) w := by
  obtain ⟨wr, q0, m0, a0, b0, lm0, sz0, g15⟩ := h.c15
  have ST := d_stands g15 hS.n31
  rw [if_pos hn] at ST
  refine cw_of (M := mX6_near) fx_X6_near (lv := [.ref 1, .int (nI t)]) rfl (Nat.le_of_ble_eq_true rfl) ?_
  refine e_iload_n dX6_near_0 rfl (pn 1 rfl ?_)
  refine c_S1 dX6_near_1 ml_X6_62 ms_X6_isRegister (by decide) (x_isR w _) rfl rfl (Nat.le_of_ble_eq_true rfl) (pn 4 rfl ?_)
  rw [iR1 ht]
  refine e_if_ne 9 dX6_near_4 (by decide) (fun _ => ?_) (fun c_9 => absurd c_9 (by decide))
  refine e_aload_n dX6_near_9 rfl (pn 10 rfl ?_)
  refine e_get dX6_near_10 fl_X6_23 h.1.1 rfl (pn 13 rfl ?_)
  refine c_V1 dX6_near_13 ml_X6_112 mv_X0_stands (by decide) ST g15 rfl rfl (Nat.le_of_ble_eq_true rfl) (pn 16 rfl ?_)
  refine e_if_ne 22 dX6_near_16 (by decide) (fun c_9 => absurd c_9 (by decide)) (fun _ => pn 19 rfl ?_)
  refine e_bi (-2) dX6_near_19 (by decide) (pn 21 rfl ?_)
  exact e_iret dX6_near_21 rfl rfl rfl
theorem X_near2 {w : Wd} {S : St} (hS : SI S) (h : XI w S) {t : Nat} (ht : t < 12) (hn : S.2.2.1.1 ≠ 0) : ∃ w1, CW mX6_near [.ref 1, .int (nI t)] w (some (.int (nI (lwA (mdS S 0) (S.2.1 t)).length))) w1 ∧ FX w w1 ∧ XI w1 S := by
  obtain ⟨wr, v, z, hN, h16, h17⟩ := h.nH hS hn ht
  have ST := d_stands hN.1 hS.n31
  rw [if_neg hn] at ST
  have NB := d_nb hN h16 h17
  have e1 : (lwA (mdS S 0) (S.2.1 t)).length = (nbV S.1 S.2.2.1.1 S.2.2.1.2.1 S.2.2.1.2.2.1 (bNat S) (lmN S) (S.2.1 t) (0, v, z)).1 + (if isM (mdS S 0) (S.2.1 t) then 1 else 0) := (nb_ok (D := mdS S 0) (hS.cD hn 0) (b := bNat S) (lm := lmN S) (hS.2.2.1 (Nat.pos_of_ne_zero hn)).2 (hS.2.1 t ht).2 (0, v, z) rfl).1
  generalize nbV S.1 S.2.2.1.1 S.2.2.1.2.1 S.2.2.1.2.2.1 (bNat S) (lmN S) (S.2.1 t) (0, v, z) = y at *
  obtain ⟨X1, F1⟩ := h.s1617 hS y
  obtain ⟨hN1, -, -⟩ := hN.up y
  have HO := d_holds hN1.1 hN1.2.1 hN1.2.2.1 hN1.2.2.2.1
  refine ⟨_, ?_, F1, X1⟩
  rw [e1]
  refine cw_of (M := mX6_near) fx_X6_near (lv := [.ref 1, .int (nI t)]) rfl (Nat.le_of_ble_eq_true rfl) ?_
  refine e_iload_n dX6_near_0 rfl (pn 1 rfl ?_)
  refine c_S1 dX6_near_1 ml_X6_62 ms_X6_isRegister (by decide) (x_isR w _) rfl rfl (Nat.le_of_ble_eq_true rfl) (pn 4 rfl ?_)
  rw [iR1 ht]
  refine e_if_ne 9 dX6_near_4 (by decide) (fun _ => ?_) (fun c_9 => absurd c_9 (by decide))
  refine e_aload_n dX6_near_9 rfl (pn 10 rfl ?_)
  refine e_get dX6_near_10 fl_X6_23 h.1.1 rfl (pn 13 rfl ?_)
  refine c_V1 dX6_near_13 ml_X6_112 mv_X0_stands (by decide) ST hN.1 rfl rfl (Nat.le_of_ble_eq_true rfl) (pn 16 rfl ?_)
  refine e_if_ne 22 dX6_near_16 (by decide) (fun _ => ?_) (fun c_9 => absurd c_9 (by decide))
  refine e_aload_n dX6_near_22 rfl (pn 23 rfl ?_)
  refine e_get dX6_near_23 fl_X6_23 h.1.1 rfl (pn 26 rfl ?_)
  refine e_aload_n dX6_near_26 rfl (pn 27 rfl ?_)
  refine e_get dX6_near_27 fl_X6_15 h.1.1 rfl (pn 30 rfl ?_)
  refine e_iload_n dX6_near_30 rfl (pn 31 rfl ?_)
  refine e_aald (t) dX6_near_31 h.1.2.1 rfl ht (by omega) (rf12_v ht) (pn 32 rfl ?_)
  refine c_V1 dX6_near_32 ml_X6_127 mv_X0_neighbours (by decide) NB hN.1 rfl rfl (Nat.le_of_ble_eq_true rfl) (pn 35 rfl ?_)
  by_cases hm : isM (mdS S 0) (S.2.1 t)
  · rw [if_pos ((hS.hoI hn _).mpr hm)] at HO
    rw [if_pos hm]
    refine e_aload_n dX6_near_35 rfl (pn 36 rfl ?_)
    refine e_get dX6_near_36 fl_X6_23 X1.1.1 rfl (pn 39 rfl ?_)
    refine e_aload_n dX6_near_39 rfl (pn 40 rfl ?_)
    refine e_get dX6_near_40 fl_X6_15 X1.1.1 rfl (pn 43 rfl ?_)
    refine e_iload_n dX6_near_43 rfl (pn 44 rfl ?_)
    refine e_aald (t) dX6_near_44 X1.1.2.1 rfl ht (by omega) (rf12_v ht) (pn 45 rfl ?_)
    refine c_V1 dX6_near_45 ml_X6_119 mv_X0_holds (by decide) HO hN1.1 rfl rfl (Nat.le_of_ble_eq_true rfl) (pn 48 rfl ?_)
    refine e_if_eq 55 dX6_near_48 (by decide) (fun c_9 => absurd c_9 (by decide)) (fun _ => pn 51 rfl ?_)
    refine e_ic (1) dX6_near_51 (by decide) (pn 52 rfl ?_)
    refine e_goto 56 dX6_near_52 (by decide) ?_
    refine e_iadd dX6_near_56 (pn 57 rfl ?_)
    exact e_iret dX6_near_57 rfl (by rw [nI_1]) rfl
  · rw [if_neg (fun e => hm ((hS.hoI hn _).mp e))] at HO
    rw [if_neg hm]
    refine e_aload_n dX6_near_35 rfl (pn 36 rfl ?_)
    refine e_get dX6_near_36 fl_X6_23 X1.1.1 rfl (pn 39 rfl ?_)
    refine e_aload_n dX6_near_39 rfl (pn 40 rfl ?_)
    refine e_get dX6_near_40 fl_X6_15 X1.1.1 rfl (pn 43 rfl ?_)
    refine e_iload_n dX6_near_43 rfl (pn 44 rfl ?_)
    refine e_aald (t) dX6_near_44 X1.1.2.1 rfl ht (by omega) (rf12_v ht) (pn 45 rfl ?_)
    refine c_V1 dX6_near_45 ml_X6_119 mv_X0_holds (by decide) HO hN1.1 rfl rfl (Nat.le_of_ble_eq_true rfl) (pn 48 rfl ?_)
    refine e_if_eq 55 dX6_near_48 (by decide) (fun _ => ?_) (fun c_9 => absurd (by decide) c_9)
    refine e_ic (0) dX6_near_55 (by decide) (pn 56 rfl ?_)
    refine e_iadd dX6_near_56 (pn 57 rfl ?_)
    exact e_iret dX6_near_57 rfl (by rw [show nI y.1 + 0 = nI (y.1 + 0) from nI_add y.1 0]) rfl
theorem X_mend0 (w : Wd) {s t : Int32} (h : ¬ (rOK s ∧ rOK t)) : CW mX6_mend [.ref 1, .int s, .int t] w (some (.int (-1))) w := by
  refine cw_of (M := mX6_mend) fx_X6_mend (lv := [.ref 1, .int s, .int t]) rfl (Nat.le_of_ble_eq_true rfl) ?_
  refine e_iload_n dX6_mend_0 rfl (pn 1 rfl ?_)
  refine c_S1 dX6_mend_1 ml_X6_62 ms_X6_isRegister (by decide) (x_isR w s) rfl rfl (Nat.le_of_ble_eq_true rfl) (pn 4 rfl ?_)
  rcases r2_cases h with hs | ⟨hs, ht⟩
  · rw [iR0 hs]
    refine e_if_eq 14 dX6_mend_4 (by decide) (fun _ => ?_) (fun c_9 => absurd (by decide) c_9)
    refine e_ic (-1) dX6_mend_14 (by decide) (pn 15 rfl ?_)
    exact e_iret dX6_mend_15 rfl rfl rfl
  · rw [iRp hs]
    refine e_if_eq 14 dX6_mend_4 (by decide) (fun c_9 => absurd c_9 (by decide)) (fun _ => pn 7 rfl ?_)
    refine e_iload_n dX6_mend_7 rfl (pn 8 rfl ?_)
    refine c_S1 dX6_mend_8 ml_X6_62 ms_X6_isRegister (by decide) (x_isR w t) rfl rfl (Nat.le_of_ble_eq_true rfl) (pn 11 rfl ?_)
    rw [iR0 ht]
    refine e_if_ne 16 dX6_mend_11 (by decide) (fun c_9 => absurd c_9 (by decide)) (fun _ => pn 14 rfl ?_)
    refine e_ic (-1) dX6_mend_14 (by decide) (pn 15 rfl ?_)
    exact e_iret dX6_mend_15 rfl rfl rfl
theorem X_mend1 {w : Wd} {S : St} (hS : SI S) (h : XI w S) {s t : Nat} (hs : s < 12) (ht : t < 12) (hn : S.2.2.1.1 = 0) : CW mX6_mend [.ref 1, .int (nI s), .int (nI t)] w (some (.int (-2))) w := by
  obtain ⟨wr, q0, m0, a0, b0, lm0, sz0, g15⟩ := h.c15
  have ST := d_stands g15 hS.n31
  rw [if_pos hn] at ST
  refine cw_of (M := mX6_mend) fx_X6_mend (lv := [.ref 1, .int (nI s), .int (nI t)]) rfl (Nat.le_of_ble_eq_true rfl) ?_
  refine e_iload_n dX6_mend_0 rfl (pn 1 rfl ?_)
  refine c_S1 dX6_mend_1 ml_X6_62 ms_X6_isRegister (by decide) (x_isR w _) rfl rfl (Nat.le_of_ble_eq_true rfl) (pn 4 rfl ?_)
  rw [iR1 hs]
  refine e_if_eq 14 dX6_mend_4 (by decide) (fun c_9 => absurd c_9 (by decide)) (fun _ => pn 7 rfl ?_)
  refine e_iload_n dX6_mend_7 rfl (pn 8 rfl ?_)
  refine c_S1 dX6_mend_8 ml_X6_62 ms_X6_isRegister (by decide) (x_isR w _) rfl rfl (Nat.le_of_ble_eq_true rfl) (pn 11 rfl ?_)
  rw [iR1 ht]
  refine e_if_ne 16 dX6_mend_11 (by decide) (fun _ => ?_) (fun c_9 => absurd c_9 (by decide))
  refine e_aload_n dX6_mend_16 rfl (pn 17 rfl ?_)
  refine e_get dX6_mend_17 fl_X6_23 h.1.1 rfl (pn 20 rfl ?_)
  refine c_V1 dX6_mend_20 ml_X6_112 mv_X0_stands (by decide) ST g15 rfl rfl (Nat.le_of_ble_eq_true rfl) (pn 23 rfl ?_)
  refine e_if_ne 29 dX6_mend_23 (by decide) (fun c_9 => absurd c_9 (by decide)) (fun _ => pn 26 rfl ?_)
  refine e_bi (-2) dX6_mend_26 (by decide) (pn 28 rfl ?_)
  exact e_iret dX6_mend_28 rfl rfl rfl
theorem X_mend2 {w : Wd} {S : St} (hS : SI S) (h : XI w S) {s t : Nat} (hs : s < 12) (ht : t < 12) (hn : S.2.2.1.1 ≠ 0) (hm : isM (mdS S 0) (S.2.1 t)) : ∃ w1, CW mX6_mend [.ref 1, .int (nI s), .int (nI t)] w (some (.int 0)) w1 ∧ FX w w1 ∧ XI w1 (sReg S s (S.2.1 t)) := by
  obtain ⟨wr, v, z, hN, h16, h17⟩ := h.nH hS hn ht
  have ST := d_stands hN.1 hS.n31
  rw [if_neg hn] at ST
  have HO := d_holds hN.1 hN.2.1 hN.2.2.1 hN.2.2.2.1
  rw [if_pos ((hS.hoI hn _).mpr hm)] at HO
  have hrs := h.1.2.2 s hs
  have hrt := h.1.2.2 t ht
  refine ⟨_, ?_, ag _ (by omega), h.reg hS hs _⟩
  refine cw_of (M := mX6_mend) fx_X6_mend (lv := [.ref 1, .int (nI s), .int (nI t)]) rfl (Nat.le_of_ble_eq_true rfl) ?_
  refine e_iload_n dX6_mend_0 rfl (pn 1 rfl ?_)
  refine c_S1 dX6_mend_1 ml_X6_62 ms_X6_isRegister (by decide) (x_isR w _) rfl rfl (Nat.le_of_ble_eq_true rfl) (pn 4 rfl ?_)
  rw [iR1 hs]
  refine e_if_eq 14 dX6_mend_4 (by decide) (fun c_9 => absurd c_9 (by decide)) (fun _ => pn 7 rfl ?_)
  refine e_iload_n dX6_mend_7 rfl (pn 8 rfl ?_)
  refine c_S1 dX6_mend_8 ml_X6_62 ms_X6_isRegister (by decide) (x_isR w _) rfl rfl (Nat.le_of_ble_eq_true rfl) (pn 11 rfl ?_)
  rw [iR1 ht]
  refine e_if_ne 16 dX6_mend_11 (by decide) (fun _ => ?_) (fun c_9 => absurd c_9 (by decide))
  refine e_aload_n dX6_mend_16 rfl (pn 17 rfl ?_)
  refine e_get dX6_mend_17 fl_X6_23 h.1.1 rfl (pn 20 rfl ?_)
  refine c_V1 dX6_mend_20 ml_X6_112 mv_X0_stands (by decide) ST hN.1 rfl rfl (Nat.le_of_ble_eq_true rfl) (pn 23 rfl ?_)
  refine e_if_ne 29 dX6_mend_23 (by decide) (fun _ => ?_) (fun c_9 => absurd c_9 (by decide))
  refine e_aload_n dX6_mend_29 rfl (pn 30 rfl ?_)
  refine e_get dX6_mend_30 fl_X6_23 h.1.1 rfl (pn 33 rfl ?_)
  refine e_aload_n dX6_mend_33 rfl (pn 34 rfl ?_)
  refine e_get dX6_mend_34 fl_X6_15 h.1.1 rfl (pn 37 rfl ?_)
  refine e_iload_n dX6_mend_37 rfl (pn 38 rfl ?_)
  refine e_aald (t) dX6_mend_38 h.1.2.1 rfl ht (by omega) (rf12_v ht) (pn 39 rfl ?_)
  refine c_V1 dX6_mend_39 ml_X6_119 mv_X0_holds (by decide) HO hN.1 rfl rfl (Nat.le_of_ble_eq_true rfl) (pn 42 rfl ?_)
  refine e_if_eq 62 dX6_mend_42 (by decide) (fun c_9 => absurd c_9 (by decide)) (fun _ => pn 45 rfl ?_)
  refine e_aload_n dX6_mend_45 rfl (pn 46 rfl ?_)
  refine e_get dX6_mend_46 fl_X6_15 h.1.1 rfl (pn 49 rfl ?_)
  refine e_iload_n dX6_mend_49 rfl (pn 50 rfl ?_)
  refine e_aald (s) dX6_mend_50 h.1.2.1 rfl hs (by omega) (rf12_v hs) (pn 51 rfl ?_)
  refine e_aload_n dX6_mend_51 rfl (pn 52 rfl ?_)
  refine e_get dX6_mend_52 fl_X6_15 h.1.1 rfl (pn 55 rfl ?_)
  refine e_iload_n dX6_mend_55 rfl (pn 56 rfl ?_)
  refine e_aald (t) dX6_mend_56 h.1.2.1 rfl ht (by omega) (rf12_v ht) (pn 57 rfl ?_)
  refine c_V0 dX6_mend_57 ml_X6_89 mv_X4_become (by decide) (r_become hrs hrt) hrs rfl rfl (Nat.le_of_ble_eq_true rfl) (pn 60 rfl ?_)
  refine e_ic (0) dX6_mend_60 (by decide) (pn 61 rfl ?_)
  exact e_iret dX6_mend_61 rfl rfl rfl
theorem X_mend3 {w : Wd} {S : St} (hS : SI S) (h : XI w S) {s t : Nat} (hs : s < 12) (ht : t < 12) (hn : S.2.2.1.1 ≠ 0) (hm : ¬ isM (mdS S 0) (S.2.1 t)) : (¬ (lwA (mdS S 0) (S.2.1 t)).length = 1 → ∃ w1, CW mX6_mend [.ref 1, .int (nI s), .int (nI t)] w (some (.int (-4))) w1 ∧ FX w w1 ∧ XI w1 S) ∧ ∀ v, lwA (mdS S 0) (S.2.1 t) = [v] → ∃ w1, CW mX6_mend [.ref 1, .int (nI s), .int (nI t)] w (some (.int 1)) w1 ∧ FX w w1 ∧ XI w1 (sReg S s v) := by
  obtain ⟨wr, v0, z0, hN, h16, h17⟩ := h.nH hS hn ht
  have ST := d_stands hN.1 hS.n31
  rw [if_neg hn] at ST
  have HO := d_holds hN.1 hN.2.1 hN.2.2.1 hN.2.2.2.1
  rw [if_neg (fun e => hm ((hS.hoI hn _).mp e))] at HO
  have NB := d_nb hN h16 h17
  have B := nbV_b hS.1.2 S.2.2.1.1 S.2.2.1.2.1 S.2.2.1.2.2.1 (bNat S) (lmN S) (hS.w ht).1 (0, v0, z0) rfl
  obtain ⟨n1, n2⟩ := nb_ok (D := mdS S 0) (hS.cD hn 0) (b := bNat S) (lm := lmN S) (hS.2.2.1 (Nat.pos_of_ne_zero hn)).2 (hS.2.1 t ht).2 (0, v0, z0) rfl
  rw [if_neg hm, Nat.add_zero] at n1
  have e1 : (lwA (mdS S 0) (S.2.1 t)).length = (nbV S.1 S.2.2.1.1 S.2.2.1.2.1 S.2.2.1.2.2.1 (bNat S) (lmN S) (S.2.1 t) (0, v0, z0)).1 := n1
  have e2 : ∀ y, lwA (mdS S 0) (S.2.1 t) = [y] → (nbV S.1 S.2.2.1.1 S.2.2.1.2.1 S.2.2.1.2.2.1 (bNat S) (lmN S) (S.2.1 t) (0, v0, z0)).2.2 = y := n2 hm
  clear n1 n2
  generalize nbV S.1 S.2.2.1.1 S.2.2.1.2.1 S.2.2.1.2.2.1 (bNat S) (lmN S) (S.2.1 t) (0, v0, z0) = y at *
  obtain ⟨X1, F1⟩ := h.s1617 hS y
  obtain ⟨hN1, g16, g17⟩ := hN.up y
  have pre : ∀ {r : Option Value} {w' : Wd}, EW mX6_mend none 75 [.ref 1, .int (nI s), .int (nI t)] [.int (nI y.1)] (wN w y) r w' → CW mX6_mend [.ref 1, .int (nI s), .int (nI t)] w r w' := by
    intro r w' K
    refine cw_of (M := mX6_mend) fx_X6_mend (lv := [.ref 1, .int (nI s), .int (nI t)]) rfl (Nat.le_of_ble_eq_true rfl) ?_
    refine e_iload_n dX6_mend_0 rfl (pn 1 rfl ?_)
    refine c_S1 dX6_mend_1 ml_X6_62 ms_X6_isRegister (by decide) (x_isR w _) rfl rfl (Nat.le_of_ble_eq_true rfl) (pn 4 rfl ?_)
    rw [iR1 hs]
    refine e_if_eq 14 dX6_mend_4 (by decide) (fun c_9 => absurd c_9 (by decide)) (fun _ => pn 7 rfl ?_)
    refine e_iload_n dX6_mend_7 rfl (pn 8 rfl ?_)
    refine c_S1 dX6_mend_8 ml_X6_62 ms_X6_isRegister (by decide) (x_isR w _) rfl rfl (Nat.le_of_ble_eq_true rfl) (pn 11 rfl ?_)
    rw [iR1 ht]
    refine e_if_ne 16 dX6_mend_11 (by decide) (fun _ => ?_) (fun c_9 => absurd c_9 (by decide))
    refine e_aload_n dX6_mend_16 rfl (pn 17 rfl ?_)
    refine e_get dX6_mend_17 fl_X6_23 h.1.1 rfl (pn 20 rfl ?_)
    refine c_V1 dX6_mend_20 ml_X6_112 mv_X0_stands (by decide) ST hN.1 rfl rfl (Nat.le_of_ble_eq_true rfl) (pn 23 rfl ?_)
    refine e_if_ne 29 dX6_mend_23 (by decide) (fun _ => ?_) (fun c_9 => absurd c_9 (by decide))
    refine e_aload_n dX6_mend_29 rfl (pn 30 rfl ?_)
    refine e_get dX6_mend_30 fl_X6_23 h.1.1 rfl (pn 33 rfl ?_)
    refine e_aload_n dX6_mend_33 rfl (pn 34 rfl ?_)
    refine e_get dX6_mend_34 fl_X6_15 h.1.1 rfl (pn 37 rfl ?_)
    refine e_iload_n dX6_mend_37 rfl (pn 38 rfl ?_)
    refine e_aald (t) dX6_mend_38 h.1.2.1 rfl ht (by omega) (rf12_v ht) (pn 39 rfl ?_)
    refine c_V1 dX6_mend_39 ml_X6_119 mv_X0_holds (by decide) HO hN.1 rfl rfl (Nat.le_of_ble_eq_true rfl) (pn 42 rfl ?_)
    refine e_if_eq 62 dX6_mend_42 (by decide) (fun _ => ?_) (fun c_9 => absurd (by decide) c_9)
    refine e_aload_n dX6_mend_62 rfl (pn 63 rfl ?_)
    refine e_get dX6_mend_63 fl_X6_23 h.1.1 rfl (pn 66 rfl ?_)
    refine e_aload_n dX6_mend_66 rfl (pn 67 rfl ?_)
    refine e_get dX6_mend_67 fl_X6_15 h.1.1 rfl (pn 70 rfl ?_)
    refine e_iload_n dX6_mend_70 rfl (pn 71 rfl ?_)
    refine e_aald (t) dX6_mend_71 h.1.2.1 rfl ht (by omega) (rf12_v ht) (pn 72 rfl ?_)
    refine c_V1 dX6_mend_72 ml_X6_127 mv_X0_neighbours (by decide) NB hN.1 rfl rfl (Nat.le_of_ble_eq_true rfl) (pn 75 rfl ?_)
    exact K
  refine ⟨fun hl => ⟨_, pre ?_, F1, X1⟩, fun v hv => ?_⟩
  · rw [e1] at hl
    refine e_ic (1) dX6_mend_75 (by decide) (pn 76 rfl ?_)
    refine e_icmp_eq 82 dX6_mend_76 (by decide) (fun c_9 => absurd c_9 (fun e => hl ((nI_eq (b := 1) (by omega) (by decide)).mp e))) (fun _ => pn 79 rfl ?_)
    refine e_bi (-4) dX6_mend_79 (by decide) (pn 81 rfl ?_)
    exact e_iret dX6_mend_81 rfl rfl rfl
  · have ev := e2 v hv
    have e3 : y.1 = 1 := by rw [← e1, hv]; rfl
    have rs := X1.1.2.2 s hs
    rw [ev] at g17
    refine ⟨_, pre ?_, F1.tr (ag (rowW v) (by omega)), X1.reg hS hs v⟩
    refine e_ic (1) dX6_mend_75 (by decide) (pn 76 rfl ?_)
    refine e_icmp_eq 82 dX6_mend_76 (by decide) (fun _ => ?_) (fun c_9 => absurd (by rw [e3]; rfl) c_9)
    refine e_aload_n dX6_mend_82 rfl (pn 83 rfl ?_)
    refine e_get dX6_mend_83 fl_X6_15 X1.1.1 rfl (pn 86 rfl ?_)
    refine e_iload_n dX6_mend_86 rfl (pn 87 rfl ?_)
    refine e_aald (s) dX6_mend_87 X1.1.2.1 rfl hs (by omega) (rf12_v hs) (pn 88 rfl ?_)
    refine e_aload_n dX6_mend_88 rfl (pn 89 rfl ?_)
    refine e_get dX6_mend_89 fl_X6_23 X1.1.1 rfl (pn 92 rfl ?_)
    refine e_get dX6_mend_92 fl_X6_130 hN1.1 rfl (pn 95 rfl ?_)
    refine c_V0 dX6_mend_95 ml_X6_89 mv_X4_become (by decide) (r_become rs g17) rs rfl rfl (Nat.le_of_ble_eq_true rfl) (pn 98 rfl ?_)
    refine e_ic (1) dX6_mend_98 (by decide) (pn 99 rfl ?_)
    exact e_iret dX6_mend_99 rfl rfl rfl
