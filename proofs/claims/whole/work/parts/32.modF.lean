/-! send -/
theorem vN_sar (x : Int64) : (nxS x >>> ((42 : Int32).toInt64 &&& 63)).toInt32 = nI (vN (nxS x)) ∧ vN (nxS x) < 64 := by
  refine ⟨?_, (vN_val x).2⟩
  obtain ⟨n, h1, h2⟩ := nxS_n x
  have hv : vN (nxS x) = n / 2 ^ 42 := by unfold vN; rw [h2, wb_tn (by omega)]
  rw [hv, h2, show (42 : Int32) = nI 42 from rfl, wb_sar (by omega) (by omega), lN_i]
def snL (lo ga tu q l v : Nat) : List Nat := if v < lo then [] else if v < lo + ga then [v % q, l] else [if v < lo + ga + tu then (l + v % (q - 1) + 1) % q else l]
def snF (lo ga tu q : Nat) (u : List Nat) : Nat → Nat → Int64 → List Nat → Int64 × List Nat
  | 0, _, now, acc => (now, acc)
  | k + 1, i, now, acc => snF lo ga tu q u k (i + 1) (nxS now) (acc ++ snL lo ga tu q (u.getD i 0) (vN (nxS now)))
theorem snL_ok {lo ga tu q l v : Nat} (hq : 2 ≤ q) (hl : l < q) : (snL lo ga tu q l v).length ≤ 2 ∧ ∀ a ∈ snL lo ga tu q l v, a < q := by
  have m1 := Nat.mod_lt v (show 0 < q by omega)
  have m2 := Nat.mod_lt (l + v % (q - 1) + 1) (show 0 < q by omega)
  unfold snL
  split
  · exact ⟨by simp, fun a ha => by cases ha⟩
  · split
    · refine ⟨by simp, fun a ha => ?_⟩
      simp only [List.mem_cons, List.not_mem_nil, or_false] at ha
      omega
    · refine ⟨by simp, fun a ha => ?_⟩
      have := List.mem_singleton.mp ha
      split at this <;> omega
theorem getD_lt {q : Nat} {u : List Nat} (h : ∀ a ∈ u, a < q) {i : Nat} (hi : i < u.length) : u.getD i 0 < q := by
  rw [List.getD_eq_getElem?_getD, List.getElem?_eq_getElem hi]
  exact h _ (List.getElem_mem hi)
theorem snF_ok {lo ga tu q : Nat} (hq : 2 ≤ q) {u : List Nat} (hu : ∀ a ∈ u, a < q) : ∀ (k i : Nat) (now : Int64) (acc : List Nat), i + k ≤ u.length → (∀ a ∈ acc, a < q) → (∀ a ∈ (snF lo ga tu q u k i now acc).2, a < q) ∧ acc.length ≤ (snF lo ga tu q u k i now acc).2.length ∧ (snF lo ga tu q u k i now acc).2.length ≤ acc.length + 2 * k
  | 0, i, now, acc, _, h => ⟨h, Nat.le_refl _, Nat.le_refl _⟩
  | k + 1, i, now, acc, hi, h => by
    have ok := snL_ok (lo := lo) (ga := ga) (tu := tu) (v := vN (nxS now)) hq (getD_lt hu (show i < u.length by omega))
    rw [snF]
    obtain ⟨h1, h2, h3⟩ := snF_ok hq hu k (i + 1) (nxS now) (acc ++ snL lo ga tu q (u.getD i 0) (vN (nxS now))) (by omega) (fun a ha => by
      rcases List.mem_append.mp ha with h9 | h9
      · exact h a h9
      · exact ok.2 a h9)
    rw [List.length_append] at h2 h3
    exact ⟨h1, by omega, by omega⟩
theorem snF_same {lo ga tu q : Nat} {u : List Nat} {a b : Int64} (h : nxS a = nxS b) : ∀ (k i : Nat) (acc : List Nat), (snF lo ga tu q u k i a acc).2 = (snF lo ga tu q u k i b acc).2 ∧ nxS (snF lo ga tu q u k i a acc).1 = nxS (snF lo ga tu q u k i b acc).1
  | 0, i, acc => ⟨rfl, h⟩
  | k + 1, i, acc => by rw [snF, snF, h]; exact ⟨rfl, rfl⟩
theorem take24 (acc : List Nat) (l : Nat) : (acc ++ [l]).take 24 = if acc.length < 24 then acc.take 24 ++ [l] else acc.take 24 := by
  by_cases h : acc.length < 24
  · rw [if_pos h, List.take_of_length_le (by simp; omega), List.take_of_length_le (by omega)]
  · rw [if_neg h, List.take_append_of_le_length (by omega)]
abbrev wH (w : Wd) (mf lf : Nat → Int32) (acc : List Nat) : Wd := wA w (va_up mf 20 (nI (acc.take 24).length)) (wrL lf 20 (acc.take 24))
theorem q_adds {w : Wd} {D : Md} {mf0 lf0 : Nat → Int32} (h : mB w D mf0 lf0) {mf lf : Nat → Int32} {acc : List Nat} (ha : acc.length < 2 ^ 20) (l : Nat) : CW mX7_adds [.ref 41, .int (nI acc.length), .int (nI l)] (wH w mf lf acc) (some (.int (nI (acc ++ [l]).length))) (wH w mf lf (acc ++ [l])) := by
  have g := h.up (va_up mf 20 (nI (acc.take 24).length)) (wrL lf 20 (acc.take 24))
  have el : (acc ++ [l]).length = acc.length + 1 := by simp
  refine cw_of (M := mX7_adds) fx_X7_adds (lv := [.ref 41, .int (nI acc.length), .int (nI l)]) rfl (Nat.le_of_ble_eq_true rfl) ?_
  refine e_iload_n dX7_adds_0 rfl (pn 1 rfl ?_)
  refine e_bi (24) dX7_adds_1 (by decide) (pn 3 rfl ?_)
  by_cases hc : acc.length < 24
  · have e := take24 acc l
    rw [if_pos hc] at e
    refine e_icmp_ge 13 dX7_adds_3 (by decide) (fun c_9 => absurd c_9 (nI_ge (b := 24) hc (by omega))) (fun _ => pn 6 rfl ?_)
    refine e_aload_n dX7_adds_6 rfl (pn 7 rfl ?_)
    refine e_bi (20) dX7_adds_7 (by decide) (pn 9 rfl ?_)
    refine e_iload_n dX7_adds_9 rfl (pn 10 rfl ?_)
    refine c_V0 dX7_adds_10 ml_X7_61 mv_X7_puts (by decide) (q_put h (s := 20) (by decide) (v := acc.take 24) (by rw [List.length_take]; omega) l) g.1 rfl rfl (Nat.le_of_ble_eq_true rfl) (pn 13 rfl ?_)
    rw [← e]
    refine e_iload_n dX7_adds_13 rfl (pn 14 rfl ?_)
    refine e_ic (1) dX7_adds_14 (by decide) (pn 15 rfl ?_)
    refine e_iadd dX7_adds_15 (pn 16 rfl ?_)
    exact e_iret dX7_adds_16 rfl (by rw [nI_1, el]) rfl
  · have e := take24 acc l
    rw [if_neg hc] at e
    refine e_icmp_ge 13 dX7_adds_3 (by decide) (fun _ => ?_) (fun c_9 => absurd (nI_le (a := 24) (by omega) (by omega)) c_9)
    refine e_iload_n dX7_adds_13 rfl (pn 14 rfl ?_)
    refine e_ic (1) dX7_adds_14 (by decide) (pn 15 rfl ?_)
    refine e_iadd dX7_adds_15 (pn 16 rfl ?_)
    exact e_iret dX7_adds_16 rfl (by rw [nI_1, el]) (by show wA w (va_up mf 20 (nI (acc.take 24).length)) (wrL lf 20 (acc.take 24)) = wA w (va_up mf 20 (nI ((acc ++ [l]).take 24).length)) (wrL lf 20 ((acc ++ [l]).take 24)); rw [e])
theorem M_send0 (w : Wd) {s t : Int32} (h : ¬ (rOK s ∧ rOK t)) : CW mX7_send [.ref 41, .int s, .int t] w (some (.int (-1))) w := by
  refine cw_of (M := mX7_send) fx_X7_send (lv := [.ref 41, .int s, .int t, dmy, dmy, dmy, dmy, dmy, dmy]) rfl (Nat.le_of_ble_eq_true rfl) ?_
  refine e_iload_n dX7_send_0 rfl (pn 1 rfl ?_)
  refine c_S1 dX7_send_1 ml_X7_53 ms_X7_isRegister (by decide) (q_isR w s) rfl rfl (Nat.le_of_ble_eq_true rfl) (pn 4 rfl ?_)
  rcases r2_cases h with hs | ⟨hs, ht⟩
  · rw [iR0 hs]
    refine e_if_eq 14 dX7_send_4 (by decide) (fun _ => ?_) (fun c_9 => absurd (by decide) c_9)
    refine e_ic (-1) dX7_send_14 (by decide) (pn 15 rfl ?_)
    exact e_iret dX7_send_15 rfl rfl rfl
  · rw [iRp hs]
    refine e_if_eq 14 dX7_send_4 (by decide) (fun c_9 => absurd c_9 (by decide)) (fun _ => pn 7 rfl ?_)
    refine e_iload_n dX7_send_7 rfl (pn 8 rfl ?_)
    refine c_S1 dX7_send_8 ml_X7_53 ms_X7_isRegister (by decide) (q_isR w t) rfl rfl (Nat.le_of_ble_eq_true rfl) (pn 11 rfl ?_)
    rw [iR0 ht]
    refine e_if_ne 16 dX7_send_11 (by decide) (fun c_9 => absurd c_9 (by decide)) (fun _ => pn 14 rfl ?_)
    refine e_ic (-1) dX7_send_14 (by decide) (pn 15 rfl ?_)
    exact e_iret dX7_send_15 rfl rfl rfl
abbrev snV (S : St) (t : Nat) (sd : Int64) : Int64 × List Nat := snF S.2.2.2.2.1.1 S.2.2.2.2.1.2.1 S.2.2.2.2.1.2.2 S.1 (S.2.1 t) (S.2.1 t).length 0 sd []
theorem M_sendP {w : Wd} {S : St} (hS : SI S) {x : Int32} {mf lf E nl : Nat → Int32} {g : Nat → Int64} {f : Nat → Int32} (hX : MX w S x mf lf E nl g f) (hW : MW S mf lf) {s t : Nat} (hs : s < 12) (ht : t < 12) {r : Option Value} {w' : Wd} (K : EW mX7_send none 178 [.ref 41, .int (nI s), .int (nI t), .long (snV S t S.2.2.2.2.2.2).1, dmy, .int (nI (snV S t S.2.2.2.2.2.2).2.length), dmy, dmy, dmy] [] (wH w mf lf (snV S t S.2.2.2.2.2.2).2) r w') : CW mX7_send [.ref 41, .int (nI s), .int (nI t)] w r w' := by
  have hq := hS.1
  have ok := hS.2.1 t ht
  have b1 := ok.1
  have h64 := hS.2.2.2.2.1
  have wt := hW.1 t ht
  obtain ⟨sd, hsd⟩ : ∃ sd, sd = S.2.2.2.2.2.2 := ⟨_, rfl⟩
  have loop : ∀ (c k : Nat) (now : Int64) (acc : List Nat), k + c = (S.2.1 t).length → acc.length ≤ 2 * k → snF S.2.2.2.2.1.1 S.2.2.2.2.1.2.1 S.2.2.2.2.1.2.2 S.1 (S.2.1 t) c k now acc = snV S t S.2.2.2.2.2.2 → EW mX7_send none 35 [.ref 41, .int (nI s), .int (nI t), .long now, dmy, .int (nI acc.length), .int (nI k), dmy, dmy] [] (wH w mf lf acc) r w' := by
    intro c
    induction c with
    | zero =>
      intro k now acc hk ha hend
      have X3 := hX.sA (va_up mf 20 (nI (acc.take 24).length)) (wrL lf 20 (acc.take 24))
      have wt3 : wM (va_up mf 20 (nI (acc.take 24).length)) (wrL lf 20 (acc.take 24)) t (S.2.1 t) := wt.other (by omega) (by rw [List.length_take]; omega) _
      rw [← hend] at K
      refine e_iload dX7_send_35 rfl (pn 37 rfl ?_)
      refine e_aload_n dX7_send_37 rfl (pn 38 rfl ?_)
      refine e_get dX7_send_38 fl_X7_13 X3.1.1 rfl (pn 41 rfl ?_)
      refine e_iload_n dX7_send_41 rfl (pn 42 rfl ?_)
      refine e_iald (t) dX7_send_42 X3.1.2.1 rfl (by omega) (by omega) (pn 43 rfl ?_)
      rw [wt3.1]
      refine e_icmp_ge 178 dX7_send_43 (by decide) (fun _ => ?_) (fun c_9 => absurd (nI_le (by omega) (by omega)) c_9)
      exact e_dr [_, _, _, _, _, _, _, _, _] 6 rfl K
    | succ c ih =>
      intro k now acc hk ha hend
      have X3 := hX.sA (va_up mf 20 (nI (acc.take 24).length)) (wrL lf 20 (acc.take 24))
      have wt3 : wM (va_up mf 20 (nI (acc.take 24).length)) (wrL lf 20 (acc.take 24)) t (S.2.1 t) := wt.other (by omega) (by rw [List.length_take]; omega) _
      have hl := getD_lt ok.2 (show k < (S.2.1 t).length by omega)
      obtain ⟨v1, v2⟩ := vN_sar now
      rw [snF] at hend
      have eN : now * 25214903917 + 11 &&& 281474976710655 = nxS now := rfl
      have o2 := (snL_ok (lo := S.2.2.2.2.1.1) (ga := S.2.2.2.2.1.2.1) (tu := S.2.2.2.2.1.2.2) (v := vN (nxS now)) hq.1 hl).1
      have IH := ih (k + 1) (nxS now) (acc ++ snL S.2.2.2.2.1.1 S.2.2.2.2.1.2.1 S.2.2.2.2.1.2.2 S.1 ((S.2.1 t).getD k 0) (vN (nxS now))) (by omega) (by rw [List.length_append]; omega) hend
      generalize hv : vN (nxS now) = v at *
      generalize nxS now = N at *
      generalize hL : (S.2.1 t).getD k 0 = l at *
      refine e_iload dX7_send_35 rfl (pn 37 rfl ?_)
      refine e_aload_n dX7_send_37 rfl (pn 38 rfl ?_)
      refine e_get dX7_send_38 fl_X7_13 X3.1.1 rfl (pn 41 rfl ?_)
      refine e_iload_n dX7_send_41 rfl (pn 42 rfl ?_)
      refine e_iald (t) dX7_send_42 X3.1.2.1 rfl (by omega) (by omega) (pn 43 rfl ?_)
      rw [wt3.1]
      refine e_icmp_ge 178 dX7_send_43 (by decide) (fun c_9 => absurd c_9 (nI_ge (by omega) (by omega))) (fun _ => pn 46 rfl ?_)
      refine e_lload_n dX7_send_46 rfl (pn 47 rfl ?_)
      refine e_ldc2 dX7_send_47 lk_X7_169 (pn 50 rfl ?_)
      refine e_lmul dX7_send_50 (pn 51 rfl ?_)
      refine e_ldc2 dX7_send_51 lk_X7_37 (pn 54 rfl ?_)
      refine e_ladd dX7_send_54 (pn 55 rfl ?_)
      refine e_ldc2 dX7_send_55 lk_X7_167 (pn 58 rfl ?_)
      refine e_land dX7_send_58 (pn 59 rfl ?_)
      rw [eN]
      refine s_ln [_, _, _, _, _, _, _, _, _] dX7_send_59 (Nat.le_of_ble_eq_true rfl) rfl (pn 60 rfl ?_)
      refine e_lload_n dX7_send_60 rfl (pn 61 rfl ?_)
      refine e_bi (42) dX7_send_61 (by decide) (pn 63 rfl ?_)
      refine e_lshr dX7_send_63 (pn 64 rfl ?_)
      refine e_l2i dX7_send_64 (pn 65 rfl ?_)
      rw [v1]
      refine s_i [_, _, _, _, _, _, _, _, _] dX7_send_65 (Nat.le_of_ble_eq_true rfl) rfl (pn 67 rfl ?_)
      refine e_aload_n dX7_send_67 rfl (pn 68 rfl ?_)
      refine e_get dX7_send_68 fl_X7_17 X3.1.1 rfl (pn 71 rfl ?_)
      refine e_bi (30) dX7_send_71 (by decide) (pn 73 rfl ?_)
      refine e_iload_n dX7_send_73 rfl (pn 74 rfl ?_)
      refine e_imul dX7_send_74 (pn 75 rfl ?_)
      refine e_iload dX7_send_75 rfl (pn 77 rfl ?_)
      refine e_iadd dX7_send_77 (pn 78 rfl ?_)
      refine e_iald (30 * t + k) dX7_send_78 X3.1.2.2 (c30 t k) (by omega) (by omega) (pn 79 rfl ?_)
      rw [wt3.2.2 k (by omega), hL]
      refine s_i [_, _, _, _, _, _, _, _, _] dX7_send_79 (Nat.le_of_ble_eq_true rfl) rfl (pn 81 rfl ?_)
      refine e_iload dX7_send_81 rfl (pn 83 rfl ?_)
      refine e_aload_n dX7_send_83 rfl (pn 84 rfl ?_)
      refine e_get dX7_send_84 fl_X7_158 X3.1.1 rfl (pn 87 rfl ?_)
      -- the end of a step
      have fin : ∀ (a2 : List Nat), a2 = acc ++ snL S.2.2.2.2.1.1 S.2.2.2.2.1.2.1 S.2.2.2.2.1.2.2 S.1 l v → ∀ l2 : Int32, EW mX7_send none 172 [.ref 41, .int (nI s), .int (nI t), .long N, dmy, .int (nI a2.length), .int (nI k), .int (nI v), .int l2] [] (wH w mf lf a2) r w' := by
        intro a2 ha2 l2
        subst ha2
        refine s_inc [_, _, _, _, _, _, _, _, _] (1) dX7_send_172 (by decide) rfl (Nat.le_of_ble_eq_true rfl) rfl (pn 175 rfl ?_)
        refine e_goto 35 dX7_send_175 (by decide) ?_
        rw [nI_1]
        exact e_dr [_, _, _, _, _, _, _, _, _] 7 rfl (e_dr [_, _, _, _, _, _, _, _, _] 8 rfl IH)
      have put : ∀ (a2 : List Nat) (l2 : Nat), a2.length < 2 ^ 20 → a2 ++ [l2] = acc ++ snL S.2.2.2.2.1.1 S.2.2.2.2.1.2.1 S.2.2.2.2.1.2.2 S.1 l v → EW mX7_send none 162 [.ref 41, .int (nI s), .int (nI t), .long N, dmy, .int (nI a2.length), .int (nI k), .int (nI v), .int (nI l2)] [] (wH w mf lf a2) r w' := by
        intro a2 l2 h20 ha2
        have X4 := hX.sA (va_up mf 20 (nI (a2.take 24).length)) (wrL lf 20 (a2.take 24))
        refine e_aload_n dX7_send_162 rfl (pn 163 rfl ?_)
        refine e_iload dX7_send_163 rfl (pn 165 rfl ?_)
        refine e_iload dX7_send_165 rfl (pn 167 rfl ?_)
        refine c_V1 dX7_send_167 ml_X7_171 mv_X7_adds (by decide) (q_adds hX.1 h20 l2) X4.1.1 rfl rfl (Nat.le_of_ble_eq_true rfl) (pn 170 rfl ?_)
        refine s_i [_, _, _, _, _, _, _, _, _] dX7_send_170 (Nat.le_of_ble_eq_true rfl) rfl (pn 172 rfl ?_)
        exact fin _ ha2 _
      by_cases h1 : v < S.2.2.2.2.1.1
      · refine e_icmp_lt 172 dX7_send_87 (by decide) (fun _ => ?_) (fun c_9 => absurd (nI_lt h1 (show S.2.2.2.2.1.1 < 2 ^ 31 by omega)) c_9)
        exact fin acc (by rw [snL, if_pos h1, List.append_nil]) _
      · refine e_icmp_lt 172 dX7_send_87 (by decide) (fun c_9 => absurd c_9 (nI_nlt (show S.2.2.2.2.1.1 ≤ v by omega) (by omega))) (fun _ => pn 90 rfl ?_)
        refine e_iload dX7_send_90 rfl (pn 92 rfl ?_)
        refine e_aload_n dX7_send_92 rfl (pn 93 rfl ?_)
        refine e_get dX7_send_93 fl_X7_158 X3.1.1 rfl (pn 96 rfl ?_)
        refine e_aload_n dX7_send_96 rfl (pn 97 rfl ?_)
        refine e_get dX7_send_97 fl_X7_161 X3.1.1 rfl (pn 100 rfl ?_)
        refine e_iadd dX7_send_100 (pn 101 rfl ?_)
        rw [show nI (mdS S x).2.2.2.2.2.2.1 + nI (mdS S x).2.2.2.2.2.2.2.1 = nI (S.2.2.2.2.1.1 + S.2.2.2.2.1.2.1) from nI_add _ _]
        by_cases h2 : v < S.2.2.2.2.1.1 + S.2.2.2.2.1.2.1
        · refine e_icmp_ge 122 dX7_send_101 (by decide) (fun c_9 => absurd c_9 (nI_ge h2 (by omega))) (fun _ => pn 104 rfl ?_)
          refine e_aload_n dX7_send_104 rfl (pn 105 rfl ?_)
          refine e_iload dX7_send_105 rfl (pn 107 rfl ?_)
          refine e_iload dX7_send_107 rfl (pn 109 rfl ?_)
          refine e_aload_n dX7_send_109 rfl (pn 110 rfl ?_)
          refine e_get dX7_send_110 fl_X7_7 X3.1.1 rfl (pn 113 rfl ?_)
          refine e_irem dX7_send_113 (nI_ne0 (show 0 < S.1 by omega) (show S.1 < 2 ^ 31 by omega)) (pn 114 rfl ?_)
          rw [show nI v - nI v / nI (mdS S x).1 * nI (mdS S x).1 = nI (v % S.1) from pk_rem (by omega) (show 0 < S.1 by omega) (show S.1 < 2 ^ 31 by omega)]
          refine c_V1 dX7_send_114 ml_X7_171 mv_X7_adds (by decide) (q_adds hX.1 (acc := acc) (by omega) (v % S.1)) X3.1.1 rfl rfl (Nat.le_of_ble_eq_true rfl) (pn 117 rfl ?_)
          refine s_i [_, _, _, _, _, _, _, _, _] dX7_send_117 (Nat.le_of_ble_eq_true rfl) rfl (pn 119 rfl ?_)
          refine e_goto 162 dX7_send_119 (by decide) ?_
          exact put (acc ++ [v % S.1]) l (by simp; omega) (by rw [snL, if_neg h1, if_pos h2, List.append_assoc]; rfl)
        · refine e_icmp_ge 122 dX7_send_101 (by decide) (fun _ => ?_) (fun c_9 => absurd (nI_le (by omega) (by omega)) c_9)
          refine e_iload dX7_send_122 rfl (pn 124 rfl ?_)
          refine e_aload_n dX7_send_124 rfl (pn 125 rfl ?_)
          refine e_get dX7_send_125 fl_X7_158 X3.1.1 rfl (pn 128 rfl ?_)
          refine e_aload_n dX7_send_128 rfl (pn 129 rfl ?_)
          refine e_get dX7_send_129 fl_X7_161 X3.1.1 rfl (pn 132 rfl ?_)
          refine e_iadd dX7_send_132 (pn 133 rfl ?_)
          refine e_aload_n dX7_send_133 rfl (pn 134 rfl ?_)
          refine e_get dX7_send_134 fl_X7_164 X3.1.1 rfl (pn 137 rfl ?_)
          refine e_iadd dX7_send_137 (pn 138 rfl ?_)
          rw [show nI (mdS S x).2.2.2.2.2.2.1 + nI (mdS S x).2.2.2.2.2.2.2.1 + nI (mdS S x).2.2.2.2.2.2.2.2.1 = nI (S.2.2.2.2.1.1 + S.2.2.2.2.1.2.1 + S.2.2.2.2.1.2.2) from (congrArg (· + nI S.2.2.2.2.1.2.2) (nI_add S.2.2.2.2.1.1 S.2.2.2.2.1.2.1)).trans (nI_add _ _)]
          by_cases h3 : v < S.2.2.2.2.1.1 + S.2.2.2.2.1.2.1 + S.2.2.2.2.1.2.2
          · refine e_icmp_ge 162 dX7_send_138 (by decide) (fun c_9 => absurd c_9 (nI_ge h3 (by omega))) (fun _ => pn 141 rfl ?_)
            refine e_iload dX7_send_141 rfl (pn 143 rfl ?_)
            refine e_iload dX7_send_143 rfl (pn 145 rfl ?_)
            refine e_aload_n dX7_send_145 rfl (pn 146 rfl ?_)
            refine e_get dX7_send_146 fl_X7_7 X3.1.1 rfl (pn 149 rfl ?_)
            refine e_ic (1) dX7_send_149 (by decide) (pn 150 rfl ?_)
            refine e_isub dX7_send_150 (pn 151 rfl ?_)
            rw [show nI (mdS S x).1 - 1 = nI (S.1 - 1) from pk_sub (b := 1) (show 1 ≤ S.1 by omega)]
            refine e_irem dX7_send_151 (nI_ne0 (by omega) (by omega)) (pn 152 rfl ?_)
            rw [pk_rem (by omega) (by omega) (by omega)]
            have m3 := Nat.mod_lt v (show 0 < S.1 - 1 by omega)
            refine e_iadd dX7_send_152 (pn 153 rfl ?_)
            refine e_ic (1) dX7_send_153 (by decide) (pn 154 rfl ?_)
            refine e_iadd dX7_send_154 (pn 155 rfl ?_)
            refine e_aload_n dX7_send_155 rfl (pn 156 rfl ?_)
            refine e_get dX7_send_156 fl_X7_7 X3.1.1 rfl (pn 159 rfl ?_)
            rw [nI_add, nI_1]
            refine e_irem dX7_send_159 (nI_ne0 (show 0 < S.1 by omega) (show S.1 < 2 ^ 31 by omega)) (pn 160 rfl ?_)
            rw [show nI (l + v % (S.1 - 1) + 1) - nI (l + v % (S.1 - 1) + 1) / nI (mdS S x).1 * nI (mdS S x).1 = nI ((l + v % (S.1 - 1) + 1) % S.1) from pk_rem (by omega) (show 0 < S.1 by omega) (show S.1 < 2 ^ 31 by omega)]
            refine s_i [_, _, _, _, _, _, _, _, _] dX7_send_160 (Nat.le_of_ble_eq_true rfl) rfl (pn 162 rfl ?_)
            exact put acc _ (by omega) (by rw [snL, if_neg h1, if_neg h2, if_pos h3])
          · refine e_icmp_ge 162 dX7_send_138 (by decide) (fun _ => ?_) (fun c_9 => absurd (nI_le (by omega) (by omega)) c_9)
            exact put acc l (by omega) (by rw [snL, if_neg h1, if_neg h2, if_neg h3])
  refine cw_of (M := mX7_send) fx_X7_send (lv := [.ref 41, .int (nI s), .int (nI t), dmy, dmy, dmy, dmy, dmy, dmy]) rfl (Nat.le_of_ble_eq_true rfl) ?_
  refine e_iload_n dX7_send_0 rfl (pn 1 rfl ?_)
  refine c_S1 dX7_send_1 ml_X7_53 ms_X7_isRegister (by decide) (q_isR w _) rfl rfl (Nat.le_of_ble_eq_true rfl) (pn 4 rfl ?_)
  rw [iR1 hs]
  refine e_if_eq 14 dX7_send_4 (by decide) (fun c_9 => absurd c_9 (by decide)) (fun _ => pn 7 rfl ?_)
  refine e_iload_n dX7_send_7 rfl (pn 8 rfl ?_)
  refine c_S1 dX7_send_8 ml_X7_53 ms_X7_isRegister (by decide) (q_isR w _) rfl rfl (Nat.le_of_ble_eq_true rfl) (pn 11 rfl ?_)
  rw [iR1 ht]
  refine e_if_ne 16 dX7_send_11 (by decide) (fun _ => ?_) (fun c_9 => absurd c_9 (by decide))
  refine e_aload_n dX7_send_16 rfl (pn 17 rfl ?_)
  refine e_get dX7_send_17 fl_X7_20 hX.1.1 rfl (pn 20 rfl ?_)
  refine s_ln [_, _, _, _, _, _, _, _, _] dX7_send_20 (Nat.le_of_ble_eq_true rfl) rfl (pn 21 rfl ?_)
  refine e_aload_n dX7_send_21 rfl (pn 22 rfl ?_)
  refine e_get dX7_send_22 fl_X7_13 hX.1.1 rfl (pn 25 rfl ?_)
  refine e_bi (20) dX7_send_25 (by decide) (pn 27 rfl ?_)
  refine e_ic (0) dX7_send_27 (by decide) (pn 28 rfl ?_)
  refine e_iast (20) dX7_send_28 hX.1.2.1 rfl (by decide) (by omega) (pn 29 rfl ?_)
  refine e_ic (0) dX7_send_29 (by decide) (pn 30 rfl ?_)
  refine s_i [_, _, _, _, _, _, _, _, _] dX7_send_30 (Nat.le_of_ble_eq_true rfl) rfl (pn 32 rfl ?_)
  refine e_ic (0) dX7_send_32 (by decide) (pn 33 rfl ?_)
  refine s_i [_, _, _, _, _, _, _, _, _] dX7_send_33 (Nat.le_of_ble_eq_true rfl) rfl (pn 35 rfl ?_)
  have L := loop (S.2.1 t).length 0 S.2.2.2.2.2.2 [] (by omega) (by simp) rfl
  refine pw ?_ L
  show w.set 42 _ = (w.set 42 _).set 43 _
  rw [List.take_nil, wrL_nil, set_id (w := w.set 42 _) (gne (by decide) hX.1.2.2)]
  rfl
theorem M_send1 {w : Wd} {S : St} (h : MI w S) {s t : Nat} (hs : s < 12) (ht : t < 12) (hf : 24 < (snV S t S.2.2.2.2.2.2).2.length) : ∃ w2, CW mX7_send [.ref 41, .int (nI s), .int (nI t)] w (some (.int (-5))) w2 ∧ FM w w2 ∧ MI w2 S := by
  obtain ⟨hS, x, mf, lf, E, nl, g, f, hX, hW, hE⟩ := h
  have ok := hS.2.1 t ht
  have b1 := ok.1
  obtain ⟨o1, o2, o3⟩ : (∀ a ∈ (snV S t S.2.2.2.2.2.2).2, a < S.1) ∧ ([] : List Nat).length ≤ (snV S t S.2.2.2.2.2.2).2.length ∧ (snV S t S.2.2.2.2.2.2).2.length ≤ ([] : List Nat).length + 2 * (S.2.1 t).length := snF_ok (lo := S.2.2.2.2.1.1) (ga := S.2.2.2.2.1.2.1) (tu := S.2.2.2.2.1.2.2) hS.1.1 ok.2 (S.2.1 t).length 0 S.2.2.2.2.2.2 [] (by omega) (fun a ha => by cases ha)
  simp only [List.length_nil] at o3
  have P := @M_sendP w S hS x mf lf E nl g f hX hW s t hs ht
  generalize snV S t S.2.2.2.2.2.2 = Y at *
  refine ⟨wH w mf lf Y.2, P ?_, hX.FA (FM.rf w) _ _, hS, x, _, _, E, nl, g, f, hX.sA _ _, hW.hand hS.2.2.2.1.1 (by decide) (by rw [List.length_take]; omega) _, hE⟩
  refine e_iload dX7_send_178 rfl (pn 180 rfl ?_)
  refine e_bi (24) dX7_send_180 (by decide) (pn 182 rfl ?_)
  refine e_icmp_le 188 dX7_send_182 (by decide) (fun c_9 => absurd c_9 (nI_ge (a := 24) hf (by omega))) (fun _ => pn 185 rfl ?_)
  refine e_bi (-5) dX7_send_185 (by decide) (pn 187 rfl ?_)
  exact e_iret dX7_send_187 rfl rfl rfl
theorem M_send2 {w : Wd} {S : St} (h : MI w S) {s t : Nat} (hs : s < 12) (ht : t < 12) (hf : (snV S t S.2.2.2.2.2.2).2.length ≤ 24) : ∃ w2, CW mX7_send [.ref 41, .int (nI s), .int (nI t)] w (some (.int (nI (snV S t S.2.2.2.2.2.2).2.length))) w2 ∧ FM w w2 ∧ MI w2 (sSd (sReg S s (snV S t S.2.2.2.2.2.2).2) ((snV S t S.2.2.2.2.2.1).1, (snV S t S.2.2.2.2.2.2).1)) := by
  obtain ⟨hS, x, mf, lf, E, nl, g, f, hX, hW, hE⟩ := h
  have ok := hS.2.1 t ht
  have b1 := ok.1
  obtain ⟨o1, o2, o3⟩ : (∀ a ∈ (snV S t S.2.2.2.2.2.2).2, a < S.1) ∧ ([] : List Nat).length ≤ (snV S t S.2.2.2.2.2.2).2.length ∧ (snV S t S.2.2.2.2.2.2).2.length ≤ ([] : List Nat).length + 2 * (S.2.1 t).length := snF_ok (lo := S.2.2.2.2.1.1) (ga := S.2.2.2.2.1.2.1) (tu := S.2.2.2.2.1.2.2) hS.1.1 ok.2 (S.2.1 t).length 0 S.2.2.2.2.2.2 [] (by omega) (fun a ha => by cases ha)
  have sm : nxS (snV S t S.2.2.2.2.2.1).1 = nxS (snV S t S.2.2.2.2.2.2).1 := (snF_same (lo := S.2.2.2.2.1.1) (ga := S.2.2.2.2.1.2.1) (tu := S.2.2.2.2.1.2.2) (q := S.1) (u := S.2.1 t) hS.2.2.2.2.2 (S.2.1 t).length 0 []).2
  have P := @M_sendP w S hS x mf lf E nl g f hX hW s t hs ht
  generalize hY : snV S t S.2.2.2.2.2.2 = Y at *
  generalize hZ : snV S t S.2.2.2.2.2.1 = Z at *
  have eT : Y.2.take 24 = Y.2 := List.take_of_length_le hf
  have X1 := hX.sA (va_up mf 20 (nI Y.2.length)) (wrL lf 20 Y.2)
  have F1 := hX.FA (FM.rf w) (va_up mf 20 (nI Y.2.length)) (wrL lf 20 Y.2)
  have X2 := X1.s41 (sSd S (Z.1, Y.1)) x
  have F2 := X1.F41 F1 (mdS (sSd S (Z.1, Y.1)) x)
  have W1 : MW (sSd S (Z.1, Y.1)) (va_up mf 20 (nI Y.2.length)) (wrL lf 20 Y.2) := hW.hand hS.2.2.2.1.1 (s := 20) (v := Y.2) (by decide) (by omega) (nI Y.2.length)
  have V1 : wM (va_up mf 20 (nI Y.2.length)) (wrL lf 20 Y.2) 20 Y.2 := wM.wr mf lf (by omega)
  have CP := q_copies X2.1 (mf := va_up mf 20 (nI Y.2.length)) (lf := wrL lf 20 Y.2) (s := s) (t := 20) (by omega) (by decide)
  rw [wA_id X2.1] at CP
  have X3 := X2.sA (va_up (va_up mf 20 (nI Y.2.length)) s (va_up mf 20 (nI Y.2.length) 20)) (cpF (wrL lf 20 Y.2) s 20 30)
  have S2 : SI (sSd S (Z.1, Y.1)) := ⟨hS.1, hS.2.1, hS.2.2.1, hS.2.2.2.1, hS.2.2.2.2.1, sm⟩
  refine ⟨_, P ?_, X2.FA F2 _ _, S2.reg (s := s) (u := Y.2) ⟨hf, o1⟩, x, _, _, E, nl, g, f, X3, W1.cp hs V1, hE⟩
  refine pw (w1 := wA w (va_up mf 20 (nI Y.2.length)) (wrL lf 20 Y.2)) (by show wA w (va_up mf 20 (nI (Y.2.take 24).length)) (wrL lf 20 (Y.2.take 24)) = _; rw [eT]) ?_
  refine e_iload dX7_send_178 rfl (pn 180 rfl ?_)
  refine e_bi (24) dX7_send_180 (by decide) (pn 182 rfl ?_)
  refine e_icmp_le 188 dX7_send_182 (by decide) (fun _ => ?_) (fun c_9 => absurd (nI_le (b := 24) hf (by omega)) c_9)
  refine e_aload_n dX7_send_188 rfl (pn 189 rfl ?_)
  refine e_lload_n dX7_send_189 rfl (pn 190 rfl ?_)
  refine e_put dX7_send_190 fp_X7_20 X1.1.1 rfl (Nat.le_of_ble_eq_true rfl) (pn 193 rfl ?_)
  refine pw (w1 := (wA w (va_up mf 20 (nI Y.2.length)) (wrL lf 20 Y.2)).set 41 (mdF (mdS (sSd S (Z.1, Y.1)) x))) rfl ?_
  refine e_aload_n dX7_send_193 rfl (pn 194 rfl ?_)
  refine e_iload_n dX7_send_194 rfl (pn 195 rfl ?_)
  refine e_bi (20) dX7_send_195 (by decide) (pn 197 rfl ?_)
  refine c_V0 dX7_send_197 ml_X7_69 mv_X7_copies (by decide) CP X2.1.1 rfl rfl (Nat.le_of_ble_eq_true rfl) (pn 200 rfl ?_)
  refine e_aload_n dX7_send_200 rfl (pn 201 rfl ?_)
  refine e_get dX7_send_201 fl_X7_13 X3.1.1 rfl (pn 204 rfl ?_)
  refine e_iload_n dX7_send_204 rfl (pn 205 rfl ?_)
  refine e_iald (s) dX7_send_205 X3.1.2.1 rfl (by omega) (by omega) (pn 206 rfl ?_)
  exact e_iret dX7_send_206 rfl (by rw [up_eq, up_eq]) rfl
