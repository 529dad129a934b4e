/-! word -/
theorem wb_sar {n k : Nat} (hn : n < 2 ^ 63) (hk : k < 64) : lN n >>> ((nI k).toInt64 &&& 63) = lN (n / 2 ^ k) := by
  rw [wb_c k hk]
  apply wb_inj
  rw [Int64.toBitVec_shiftRight, wb_tb, wb_tb, wb_tb, wb_sm k hk, BitVec.sshiftRight_eq', BitVec.sshiftRight_eq_of_msb_false (by rw [BitVec.msb_eq_false_iff_two_mul_lt, BitVec.toNat_ofNat, Nat.mod_eq_of_lt (by omega)]; omega)]
  apply BitVec.eq_of_toNat_eq
  rw [BitVec.toNat_ushiftRight, BitVec.toNat_ofNat, BitVec.toNat_ofNat, BitVec.toNat_ofNat, Nat.mod_eq_of_lt (show k < 2 ^ 64 by omega), Nat.mod_eq_of_lt (show n < 2 ^ 64 by omega), Nat.shiftRight_eq_div_pow, Nat.mod_eq_of_lt (Nat.lt_of_le_of_lt (Nat.div_le_self _ _) (show n < 2 ^ 64 by omega))]
def dgW : Nat → Nat → List Nat
  | _, 0 => []
  | x, n + 1 => x % 4 :: dgW (x / 4) n
theorem dgW_len : ∀ n x, (dgW x n).length = n
  | 0, x => rfl
  | n + 1, x => by rw [dgW, List.length_cons, dgW_len n]
theorem dgW_get : ∀ n x k, k < n → (dgW x n).getD k 0 = x / 4 ^ k % 4
  | 0, x, k, h => by omega
  | n + 1, x, 0, h => by rw [dgW, Nat.pow_zero, Nat.div_one]; rfl
  | n + 1, x, k + 1, h => by
    have := dgW_get n (x / 4) k (by omega)
    rw [Nat.div_div_eq_div_mul, ← Nat.pow_succ'] at this
    rw [dgW, ← this]
    rfl
theorem dgW_enc : ∀ n x, enc (dgW x n) = x % 4 ^ n
  | 0, x => by rw [Nat.pow_zero, Nat.mod_one]; rfl
  | n + 1, x => by
    rw [dgW, enc, dgW_enc n (x / 4), Nat.pow_succ', Nat.mod_mul]
theorem take_snoc {u : List Nat} {k : Nat} (h : k < u.length) : u.take (k + 1) = u.take k ++ [u.getD k 0] := by
  rw [List.take_add_one, List.getElem?_eq_getElem h, List.getD_eq_getElem?_getD, List.getElem?_eq_getElem h]
  rfl
abbrev wOK (q n x : Nat) : Prop := x < 4 ^ n ∧ ∀ k, k < n → x / 4 ^ k % 4 < q
theorem dgW_ok {q n x : Nat} (hn : n ≤ 24) (h : wOK q n x) : okQ q (dgW x n) := by
  refine ⟨by rw [dgW_len]; exact hn, fun a ha => ?_⟩
  obtain ⟨k, hk, e⟩ := List.getElem_of_mem ha
  rw [dgW_len] at hk
  have := h.2 k hk
  rw [← dgW_get n x k hk, List.getD_eq_getElem?_getD, List.getElem?_eq_getElem (by rw [dgW_len]; exact hk)] at this
  rw [← e]
  exact this
theorem p24 {n : Nat} (h : n ≤ 24) : 4 ^ n ≤ 2 ^ 48 := Nat.le_trans (Nat.pow_le_pow_right (by decide) h) (by decide)
theorem sh_0 {x n : Nat} (hx : x < 2 ^ 64) (hn : n ≤ 24) : ((lN x).toUInt64 >>> (((2 : Int32) * nI n).toInt64.toUInt64 &&& Int64.toUInt64 63)).toInt64 = 0 ↔ x < 4 ^ n := by
  rw [n2, wb_shr hx (by omega), p4]
  refine ⟨fun h => ?_, fun h => by rw [Nat.div_eq_of_lt h]; rfl⟩
  have h1 : (lN (x / 4 ^ n)).toBitVec.toNat = (0 : Int64).toBitVec.toNat := by rw [h]
  rw [wb_tn (Nat.lt_of_le_of_lt (Nat.div_le_self _ _) hx)] at h1
  have h2 : x / 4 ^ n = 0 := h1
  rcases Nat.div_eq_zero_iff.mp h2 with h3 | h3
  · have := Nat.pow_pos (n := n) (show 0 < 4 by decide); omega
  · exact h3
theorem M_word0 (w : Wd) {s n : Int32} {row : Int64} (h : ¬ (rOK s ∧ 0 ≤ n ∧ n ≤ 24)) : CW mX7_word [.ref 41, .int s, .int n, .long row] w (some (.int (-1))) w := by
  refine cw_of (M := mX7_word) fx_X7_word (lv := [.ref 41, .int s, .int n, .long row, dmy, dmy]) rfl (Nat.le_of_ble_eq_true rfl) ?_
  refine e_iload_n dX7_word_0 rfl (pn 1 rfl ?_)
  refine c_S1 dX7_word_1 ml_X7_53 ms_X7_isRegister (by decide) (q_isR w s) rfl rfl (Nat.le_of_ble_eq_true rfl) (pn 4 rfl ?_)
  by_cases hs : rOK s
  · rw [iRp hs]
    refine e_if_eq 35 dX7_word_4 (by decide) (fun c_9 => absurd c_9 (by decide)) (fun _ => pn 7 rfl ?_)
    refine e_iload_n dX7_word_7 rfl (pn 8 rfl ?_)
    refine e_i2l dX7_word_8 (pn 9 rfl ?_)
    refine e_lc (0) dX7_word_9 (by decide) (pn 10 rfl ?_)
    refine e_ldc2 dX7_word_10 lk_X7_57 (pn 13 rfl ?_)
    refine c_S1 dX7_word_13 ml_X7_39 ms_X7_in (by decide) (q_in w n 0 24 (by decide) (by decide)) rfl rfl (Nat.le_of_ble_eq_true rfl) (pn 16 rfl ?_)
    rw [if_neg (fun e => h ⟨hs, e⟩)]
    refine e_if_eq 35 dX7_word_16 (by decide) (fun _ => ?_) (fun c_9 => absurd (by decide) c_9)
    refine e_ic (-1) dX7_word_35 (by decide) (pn 36 rfl ?_)
    exact e_iret dX7_word_36 rfl rfl rfl
  · rw [iR0 hs]
    refine e_if_eq 35 dX7_word_4 (by decide) (fun _ => ?_) (fun c_9 => absurd (by decide) c_9)
    refine e_ic (-1) dX7_word_35 (by decide) (pn 36 rfl ?_)
    exact e_iret dX7_word_36 rfl rfl rfl
theorem lN_neg {x : Nat} (hx : x < 2 ^ 64) : ¬ lN x < 0 ↔ x < 2 ^ 63 := by
  rw [fa_lt64, show (0 : Int64).toInt = 0 from by decide]
  show ¬ (BitVec.ofNat 64 x).toInt < 0 ↔ _
  rw [BitVec.toInt_eq_toNat_cond, BitVec.toNat_ofNat, Nat.mod_eq_of_lt hx]
  split <;> omega
theorem dig_v {x k : Nat} (hx : x < 2 ^ 63) (hk : k < 24) : (lN x >>> (((2 : Int32) * nI k).toInt64 &&& 63)) &&& 3 = lN (x / 4 ^ k % 4) := by
  rw [n2, wb_sar hx (by omega), p4, show (3 : Int64) = lN (2 ^ 2 - 1) from rfl, fb_andL, Nat.and_two_pow_sub_one_eq_mod]
theorem M_wordC {w : Wd} {S : St} (h : MI w S) {s n x : Nat} (hs : s < 12) (hn : n ≤ 24) (hx : x < 2 ^ 64) {r : Option Value} {w' : Wd} (K : wOK S.1 n x → EW mX7_word none 73 [.ref 41, .int (nI s), .int (nI n), .long (lN x), dmy, dmy] [] w r w') (B : ¬ wOK S.1 n x → r = some (.int (-1)) ∧ w = w') : CW mX7_word [.ref 41, .int (nI s), .int (nI n), .long (lN x)] w r w' := by
  obtain ⟨hS, z, mf, lf, E, nl, g, f, hX, hW, hE⟩ := h
  have hq := hS.1
  refine cw_of (M := mX7_word) fx_X7_word (lv := [.ref 41, .int (nI s), .int (nI n), .long (lN x), dmy, dmy]) rfl (Nat.le_of_ble_eq_true rfl) ?_
  refine e_iload_n dX7_word_0 rfl (pn 1 rfl ?_)
  refine c_S1 dX7_word_1 ml_X7_53 ms_X7_isRegister (by decide) (q_isR w _) rfl rfl (Nat.le_of_ble_eq_true rfl) (pn 4 rfl ?_)
  rw [iR1 hs]
  refine e_if_eq 35 dX7_word_4 (by decide) (fun c_9 => absurd c_9 (by decide)) (fun _ => pn 7 rfl ?_)
  refine e_iload_n dX7_word_7 rfl (pn 8 rfl ?_)
  refine e_i2l dX7_word_8 (pn 9 rfl ?_)
  refine e_lc (0) dX7_word_9 (by decide) (pn 10 rfl ?_)
  refine e_ldc2 dX7_word_10 lk_X7_57 (pn 13 rfl ?_)
  refine c_S1 dX7_word_13 ml_X7_39 ms_X7_in (by decide) (q_in w (nI n) 0 24 (by decide) (by decide)) rfl rfl (Nat.le_of_ble_eq_true rfl) (pn 16 rfl ?_)
  rw [if_pos ⟨nI_pos' (by omega), nI_le (b := 24) hn (by omega)⟩]
  refine e_if_eq 35 dX7_word_16 (by decide) (fun c_9 => absurd c_9 (by decide)) (fun _ => pn 19 rfl ?_)
  refine e_lload_n dX7_word_19 rfl (pn 20 rfl ?_)
  refine e_lc (0) dX7_word_20 (by decide) (pn 21 rfl ?_)
  refine e_lcmp dX7_word_21 (pn 22 rfl ?_)
  by_cases h63 : x < 2 ^ 63
  · refine e_if_lt 35 dX7_word_22 (by decide) (fun c_9 => absurd c_9 (fun e => (lN_neg hx).mpr h63 ((cmp_lt _ _).mp e))) (fun _ => pn 25 rfl ?_)
    refine e_lload_n dX7_word_25 rfl (pn 26 rfl ?_)
    refine e_ic (2) dX7_word_26 (by decide) (pn 27 rfl ?_)
    refine e_iload_n dX7_word_27 rfl (pn 28 rfl ?_)
    refine e_imul dX7_word_28 (pn 29 rfl ?_)
    refine e_lushr dX7_word_29 (pn 30 rfl ?_)
    refine e_lc (0) dX7_word_30 (by decide) (pn 31 rfl ?_)
    refine e_lcmp dX7_word_31 (pn 32 rfl ?_)
    by_cases h4 : x < 4 ^ n
    · refine e_if_eq 37 dX7_word_32 (by decide) (fun _ => ?_) (fun c_9 => absurd ((cmp_eq _ _).mpr ((sh_0 hx hn).mpr h4)) c_9)
      have loop : ∀ (c i : Nat), i + c = n → (∀ j, j < i → x / 4 ^ j % 4 < S.1) → EW mX7_word none 40 [.ref 41, .int (nI s), .int (nI n), .long (lN x), dmy, .int (nI i)] [] w r w' := by
        intro c
        induction c with
        | zero =>
          intro i hi hg
          refine e_iload dX7_word_40 rfl (pn 42 rfl ?_)
          refine e_iload_n dX7_word_42 rfl (pn 43 rfl ?_)
          refine e_icmp_ge 73 dX7_word_43 (by decide) (fun _ => ?_) (fun c_9 => absurd (nI_le (by omega) (by omega)) c_9)
          exact e_dr [_, _, _, _, _, _] 5 rfl (K ⟨h4, fun k hk => hg k (by omega)⟩)
        | succ c ih =>
          intro i hi hg
          have h9 := Nat.mod_lt (x / 4 ^ i) (show 0 < 4 by decide)
          refine e_iload dX7_word_40 rfl (pn 42 rfl ?_)
          refine e_iload_n dX7_word_42 rfl (pn 43 rfl ?_)
          refine e_icmp_ge 73 dX7_word_43 (by decide) (fun c_9 => absurd c_9 (nI_ge (by omega) (by omega))) (fun _ => pn 46 rfl ?_)
          refine e_lload_n dX7_word_46 rfl (pn 47 rfl ?_)
          refine e_ic (2) dX7_word_47 (by decide) (pn 48 rfl ?_)
          refine e_iload dX7_word_48 rfl (pn 50 rfl ?_)
          refine e_imul dX7_word_50 (pn 51 rfl ?_)
          refine e_lshr dX7_word_51 (pn 52 rfl ?_)
          refine e_ldc2 dX7_word_52 lk_X7_59 (pn 55 rfl ?_)
          refine e_land dX7_word_55 (pn 56 rfl ?_)
          rw [dig_v h63 (by omega)]
          refine e_aload_n dX7_word_56 rfl (pn 57 rfl ?_)
          refine e_get dX7_word_57 fl_X7_7 hX.1.1 rfl (pn 60 rfl ?_)
          refine e_i2l dX7_word_60 (pn 61 rfl ?_)
          refine e_lcmp dX7_word_61 (pn 62 rfl ?_)
          rw [show (nI (mdS S z).1).toInt64 = lN S.1 from nI_l (show S.1 < 2 ^ 31 by omega)]
          by_cases hd : x / 4 ^ i % 4 < S.1
          · refine e_if_lt 67 dX7_word_62 (by decide) (fun _ => ?_) (fun c_9 => absurd ((cmp_lt _ _).mpr ((lN_lt (by omega) (by omega)).mpr hd)) c_9)
            refine s_inc [_, _, _, _, _, _] (1) dX7_word_67 (by decide) rfl (Nat.le_of_ble_eq_true rfl) rfl (pn 70 rfl ?_)
            refine e_goto 40 dX7_word_70 (by decide) ?_
            rw [nI_1]
            refine ih (i + 1) (by omega) (fun j hj => ?_)
            by_cases e : j = i
            · rw [e]; exact hd
            · exact hg j (by omega)
          · refine e_if_lt 67 dX7_word_62 (by decide) (fun c_9 => absurd c_9 (fun e => hd ((lN_lt (by omega) (by omega)).mp ((cmp_lt _ _).mp e)))) (fun _ => pn 65 rfl ?_)
            obtain ⟨b1, b2⟩ := B (fun e => hd (e.2 i (by omega)))
            refine e_ic (-1) dX7_word_65 (by decide) (pn 66 rfl ?_)
            exact e_iret dX7_word_66 rfl b1 b2
      refine e_ic (0) dX7_word_37 (by decide) (pn 38 rfl ?_)
      refine s_i [_, _, _, _, _, _] dX7_word_38 (Nat.le_of_ble_eq_true rfl) rfl (pn 40 rfl ?_)
      exact loop n 0 (by omega) (fun j hj => by omega)
    · refine e_if_eq 37 dX7_word_32 (by decide) (fun c_9 => absurd c_9 (fun e => h4 ((sh_0 hx hn).mp ((cmp_eq _ _).mp e)))) (fun _ => pn 35 rfl ?_)
      obtain ⟨b1, b2⟩ := B (fun e => h4 e.1)
      refine e_ic (-1) dX7_word_35 (by decide) (pn 36 rfl ?_)
      exact e_iret dX7_word_36 rfl b1 b2
  · refine e_if_lt 35 dX7_word_22 (by decide) (fun _ => ?_) (fun c_9 => absurd ((cmp_lt _ _).mpr (Classical.byContradiction (fun e => h63 ((lN_neg hx).mp e)))) c_9)
    obtain ⟨b1, b2⟩ := B (fun e => h63 (Nat.lt_of_lt_of_le e.1 (Nat.le_trans (p24 hn) (by decide))))
    refine e_ic (-1) dX7_word_35 (by decide) (pn 36 rfl ?_)
    exact e_iret dX7_word_36 rfl b1 b2
theorem M_word1 {w : Wd} {S : St} (h : MI w S) {s n x : Nat} (hs : s < 12) (hn : n ≤ 24) (hx : x < 2 ^ 64) (hb : ¬ wOK S.1 n x) : CW mX7_word [.ref 41, .int (nI s), .int (nI n), .long (lN x)] w (some (.int (-1))) w := M_wordC h hs hn hx (fun e => absurd e hb) (fun _ => ⟨rfl, rfl⟩)
theorem M_word2 {w : Wd} {S : St} (h : MI w S) {s n x : Nat} (hs : s < 12) (hn : n ≤ 24) (hx : x < 2 ^ 64) (hg : wOK S.1 n x) : ∃ w2, CW mX7_word [.ref 41, .int (nI s), .int (nI n), .long (lN x)] w (some (.int (nI n))) w2 ∧ FM w w2 ∧ MI w2 (sReg S s (dgW x n)) := by
  have h0 := h
  obtain ⟨hS, z, mf, lf, E, nl, g, f, hX, hW, hE⟩ := h
  have h63 : x < 2 ^ 63 := Nat.lt_of_lt_of_le hg.1 (Nat.le_trans (p24 hn) (by decide))
  have hlen := dgW_len n x
  have ok := dgW_ok hn hg
  generalize hv : dgW x n = v at *
  refine ⟨wA w (va_up mf s (nI v.length)) (wrL lf s v), M_wordC h0 hs hn hx (fun _ => ?_) (fun e => absurd hg e), hX.FA (FM.rf w) _ _, hS.reg ok, z, _, _, E, nl, g, f, hX.sA _ _, hW.put hs (by omega), hE⟩
  have loop : ∀ (c i : Nat), i + c = n → EW mX7_word none 83 [.ref 41, .int (nI s), .int (nI n), .long (lN x), dmy, .int (nI i)] [] (wA w (va_up mf s (nI (v.take i).length)) (wrL lf s (v.take i))) (some (.int (nI n))) (wA w (va_up mf s (nI v.length)) (wrL lf s v)) := by
    intro c
    induction c with
    | zero =>
      intro i hi
      have e : v.take i = v := List.take_of_length_le (by omega)
      rw [e]
      refine e_iload dX7_word_83 rfl (pn 85 rfl ?_)
      refine e_iload_n dX7_word_85 rfl (pn 86 rfl ?_)
      refine e_icmp_ge 111 dX7_word_86 (by decide) (fun _ => ?_) (fun c_9 => absurd (nI_le (by omega) (by omega)) c_9)
      refine e_iload_n dX7_word_111 rfl (pn 112 rfl ?_)
      exact e_iret dX7_word_112 rfl rfl rfl
    | succ c ih =>
      intro i hi
      have g1 := hX.1.up (va_up mf s (nI (v.take i).length)) (wrL lf s (v.take i))
      have hl : (v.take i).length = i := by rw [List.length_take]; omega
      refine e_iload dX7_word_83 rfl (pn 85 rfl ?_)
      refine e_iload_n dX7_word_85 rfl (pn 86 rfl ?_)
      refine e_icmp_ge 111 dX7_word_86 (by decide) (fun c_9 => absurd c_9 (nI_ge (by omega) (by omega))) (fun _ => pn 89 rfl ?_)
      refine e_aload_n dX7_word_89 rfl (pn 90 rfl ?_)
      refine e_iload_n dX7_word_90 rfl (pn 91 rfl ?_)
      refine e_lload_n dX7_word_91 rfl (pn 92 rfl ?_)
      refine e_ic (2) dX7_word_92 (by decide) (pn 93 rfl ?_)
      refine e_iload dX7_word_93 rfl (pn 95 rfl ?_)
      refine e_imul dX7_word_95 (pn 96 rfl ?_)
      refine e_lshr dX7_word_96 (pn 97 rfl ?_)
      refine e_ldc2 dX7_word_97 lk_X7_59 (pn 100 rfl ?_)
      refine e_land dX7_word_100 (pn 101 rfl ?_)
      rw [dig_v h63 (by omega)]
      refine e_l2i dX7_word_101 (pn 102 rfl ?_)
      rw [lN_i, ← dgW_get n x i (by omega), hv]
      refine c_V0 dX7_word_102 ml_X7_61 mv_X7_puts (by decide) (q_put hX.1 (s := s) (by omega) (v := v.take i) (by omega) (v.getD i 0)) g1.1 rfl rfl (Nat.le_of_ble_eq_true rfl) (pn 105 rfl ?_)
      rw [← take_snoc (by omega)]
      refine s_inc [_, _, _, _, _, _] (1) dX7_word_105 (by decide) rfl (Nat.le_of_ble_eq_true rfl) rfl (pn 108 rfl ?_)
      refine e_goto 83 dX7_word_108 (by decide) ?_
      rw [nI_1]
      exact ih (i + 1) (by omega)
  have L := loop n 0 (by omega)
  rw [List.take_zero, wrL_nil] at L
  refine e_aload_n dX7_word_73 rfl (pn 74 rfl ?_)
  refine e_get dX7_word_74 fl_X7_13 hX.1.1 rfl (pn 77 rfl ?_)
  refine e_iload_n dX7_word_77 rfl (pn 78 rfl ?_)
  refine e_ic (0) dX7_word_78 (by decide) (pn 79 rfl ?_)
  refine e_iast (s) dX7_word_79 hX.1.2.1 rfl (by omega) (by omega) (pn 80 rfl ?_)
  refine e_ic (0) dX7_word_80 (by decide) (pn 81 rfl ?_)
  refine s_i [_, _, _, _, _, _] dX7_word_81 (Nat.le_of_ble_eq_true rfl) rfl (pn 83 rfl ?_)
  refine pw ?_ L
  show w.set 42 _ = (w.set 42 _).set 43 _
  rw [set_id (w := w.set 42 _) (gne (by decide) hX.1.2.2)]
  rfl
/-! edit -/
theorem M_edit0 (w : Wd) {s t k i l : Int32} (h : ¬ (rOK s ∧ rOK t)) : CW mX7_edit [.ref 41, .int s, .int t, .int k, .int i, .int l] w (some (.int (-1))) w := by
  refine cw_of (M := mX7_edit) fx_X7_edit (lv := [.ref 41, .int s, .int t, .int k, .int i, .int l]) rfl (Nat.le_of_ble_eq_true rfl) ?_
  refine e_iload_n dX7_edit_0 rfl (pn 1 rfl ?_)
  refine c_S1 dX7_edit_1 ml_X7_53 ms_X7_isRegister (by decide) (q_isR w s) rfl rfl (Nat.le_of_ble_eq_true rfl) (pn 4 rfl ?_)
  rcases r2_cases h with hs | ⟨hs, ht⟩
  · rw [iR0 hs]
    refine e_if_eq 81 dX7_edit_4 (by decide) (fun _ => ?_) (fun c_9 => absurd (by decide) c_9)
    refine e_ic (-1) dX7_edit_81 (by decide) (pn 82 rfl ?_)
    exact e_iret dX7_edit_82 rfl rfl rfl
  · rw [iRp hs]
    refine e_if_eq 81 dX7_edit_4 (by decide) (fun c_9 => absurd c_9 (by decide)) (fun _ => pn 7 rfl ?_)
    refine e_iload_n dX7_edit_7 rfl (pn 8 rfl ?_)
    refine c_S1 dX7_edit_8 ml_X7_53 ms_X7_isRegister (by decide) (q_isR w t) rfl rfl (Nat.le_of_ble_eq_true rfl) (pn 11 rfl ?_)
    rw [iR0 ht]
    refine e_if_eq 81 dX7_edit_11 (by decide) (fun _ => ?_) (fun c_9 => absurd (by decide) c_9)
    refine e_ic (-1) dX7_edit_81 (by decide) (pn 82 rfl ?_)
    exact e_iret dX7_edit_82 rfl rfl rfl
/-- an edit that is one -/
def eN (q n : Nat) (k i l : Int32) : Prop := ∃ kd j l' : Nat, k = nI kd ∧ i = nI j ∧ l = nI l' ∧ kd ≤ 2 ∧ (if kd = 1 then j ≤ n else j < n) ∧ (kd = 0 ∨ l' < q)
theorem eN_to {q n : Nat} (hq : 2 ≤ q ∧ q ≤ 4) (hn : n ≤ 24) {k i l : Int32} (h1 : 0 ≤ k ∧ k ≤ 2) (h2 : 0 ≤ i ∧ i ≤ (if k = 1 then nI n else nI n - 1)) (h3 : k ≤ 0 ∨ (0 ≤ l ∧ l ≤ nI q - 1)) : eN q n k i l := by
  obtain ⟨kd, hk, rfl⟩ := i_nat (a := 0) (b := 2) (by decide) h1.1 h1.2 (by decide)
  have h0 : ¬ i < 0 := fun e => by have h9 := h2.1; rw [fa_le] at h9; rw [fa_lt] at e; omega
  obtain ⟨j, hj, rfl⟩ := nI_of h0
  obtain ⟨l', hl', rfl⟩ := wb_of32 l
  refine ⟨kd, j, l', rfl, rfl, rfl, hk.2, ?_, ?_⟩
  · have h4 := h2.2
    by_cases e : kd = 1
    · subst e
      rw [if_pos (by rfl)] at h4
      rw [if_pos rfl]
      exact (nI_leI hj (by omega)).mp h4
    · rw [if_neg (show ¬ nI kd = 1 from fun e2 => e ((nI_eq (b := 1) (by omega) (by decide)).mp e2))] at h4
      rw [if_neg e]
      cases n with
      | zero =>
        have h5 := h2.1
        rw [fa_le] at h4 h5
        have e1 : (nI 0 - 1).toInt = -1 := by decide
        have e2 : (0 : Int32).toInt = 0 := by decide
        omega
      | succ n =>
        rw [nI_pred] at h4
        have := (nI_leI hj (by omega)).mp h4
        omega
  · rcases h3 with h3 | h3
    · left
      by_cases e : kd = 0
      · exact e
      · exact absurd h3 (nI_nle (by omega) (by omega))
    · right
      rw [show nI q - 1 = nI (q - 1) from pk_sub (b := 1) (by omega)] at h3
      obtain ⟨z, hz, e⟩ := i_nat (a := 0) (b := q - 1) (by omega) h3.1 h3.2 (by decide)
      have : l' = z := by
        have h9 : (nI l').toBitVec.toNat = (nI z).toBitVec.toNat := by rw [e]
        have t1 : (nI l').toBitVec.toNat = l' := by show (BitVec.ofNat 32 l').toNat = _; rw [BitVec.toNat_ofNat]; exact Nat.mod_eq_of_lt hl'
        have t2 : (nI z).toBitVec.toNat = z := by show (BitVec.ofNat 32 z).toNat = _; rw [BitVec.toNat_ofNat]; exact Nat.mod_eq_of_lt (by omega)
        omega
      omega
theorem M_edit1 {w : Wd} {S : St} (h : MI w S) {s t : Nat} (hs : s < 12) (ht : t < 12) {k i l : Int32} (hb : ¬ eN S.1 (S.2.1 t).length k i l) : CW mX7_edit [.ref 41, .int (nI s), .int (nI t), .int k, .int i, .int l] w (some (.int (-1))) w := by
  obtain ⟨hS, z, mf, lf, E, nl, g, f, hX, hW, hE⟩ := h
  have b1 := (hS.w ht).1
  have hu := hW.1 t ht
  refine cw_of (M := mX7_edit) fx_X7_edit (lv := [.ref 41, .int (nI s), .int (nI t), .int k, .int i, .int l]) rfl (Nat.le_of_ble_eq_true rfl) ?_
  refine e_iload_n dX7_edit_0 rfl (pn 1 rfl ?_)
  refine c_S1 dX7_edit_1 ml_X7_53 ms_X7_isRegister (by decide) (q_isR w _) rfl rfl (Nat.le_of_ble_eq_true rfl) (pn 4 rfl ?_)
  rw [iR1 hs]
  refine e_if_eq 81 dX7_edit_4 (by decide) (fun c_9 => absurd c_9 (by decide)) (fun _ => pn 7 rfl ?_)
  refine e_iload_n dX7_edit_7 rfl (pn 8 rfl ?_)
  refine c_S1 dX7_edit_8 ml_X7_53 ms_X7_isRegister (by decide) (q_isR w _) rfl rfl (Nat.le_of_ble_eq_true rfl) (pn 11 rfl ?_)
  rw [iR1 ht]
  refine e_if_eq 81 dX7_edit_11 (by decide) (fun c_9 => absurd c_9 (by decide)) (fun _ => pn 14 rfl ?_)
  refine e_iload_n dX7_edit_14 rfl (pn 15 rfl ?_)
  refine e_i2l dX7_edit_15 (pn 16 rfl ?_)
  refine e_lc (0) dX7_edit_16 (by decide) (pn 17 rfl ?_)
  refine e_ldc2 dX7_edit_17 lk_X7_43 (pn 20 rfl ?_)
  refine c_S1 dX7_edit_20 ml_X7_39 ms_X7_in (by decide) (q_in w k 0 2 (by decide) (by decide)) rfl rfl (Nat.le_of_ble_eq_true rfl) (pn 23 rfl ?_)
  by_cases hk : 0 ≤ k ∧ k ≤ 2
  · rw [if_pos hk]
    refine e_if_eq 81 dX7_edit_23 (by decide) (fun c_9 => absurd c_9 (by decide)) (fun _ => pn 26 rfl ?_)
    refine e_iload dX7_edit_26 rfl (pn 28 rfl ?_)
    refine e_i2l dX7_edit_28 (pn 29 rfl ?_)
    refine e_lc (0) dX7_edit_29 (by decide) (pn 30 rfl ?_)
    refine e_iload_n dX7_edit_30 rfl (pn 31 rfl ?_)
    refine e_ic (1) dX7_edit_31 (by decide) (pn 32 rfl ?_)
    have tail : ∀ B : Int32, B = (if k = 1 then nI (S.2.1 t).length else nI (S.2.1 t).length - 1) → EW mX7_edit none 54 [.ref 41, .int (nI s), .int (nI t), .int k, .int i, .int l] [.long B.toInt64, .long 0, .long i.toInt64] w (some (.int (-1))) w := by
      intro B hB
      refine c_S1 dX7_edit_54 ml_X7_39 ms_X7_in (by decide) (q_in w i 0 B (by decide) rfl) rfl rfl (Nat.le_of_ble_eq_true rfl) (pn 57 rfl ?_)
      by_cases hi : 0 ≤ i ∧ i ≤ B
      · rw [if_pos hi]
        refine e_if_eq 81 dX7_edit_57 (by decide) (fun c_9 => absurd c_9 (by decide)) (fun _ => pn 60 rfl ?_)
        refine e_iload_n dX7_edit_60 rfl (pn 61 rfl ?_)
        by_cases hk0 : k ≤ 0
        · exact absurd (eN_to hS.1 b1 hk ⟨hi.1, hB ▸ hi.2⟩ (Or.inl hk0)) hb
        · refine e_if_le 83 dX7_edit_61 (by decide) (fun c_9 => absurd c_9 hk0) (fun _ => pn 64 rfl ?_)
          refine e_iload dX7_edit_64 rfl (pn 66 rfl ?_)
          refine e_i2l dX7_edit_66 (pn 67 rfl ?_)
          refine e_lc (0) dX7_edit_67 (by decide) (pn 68 rfl ?_)
          refine e_aload_n dX7_edit_68 rfl (pn 69 rfl ?_)
          refine e_get dX7_edit_69 fl_X7_7 hX.1.1 rfl (pn 72 rfl ?_)
          refine e_ic (1) dX7_edit_72 (by decide) (pn 73 rfl ?_)
          refine e_isub dX7_edit_73 (pn 74 rfl ?_)
          refine e_i2l dX7_edit_74 (pn 75 rfl ?_)
          refine c_S1 dX7_edit_75 ml_X7_39 ms_X7_in (by decide) (q_in w l 0 (nI S.1 - 1) (by decide) rfl) rfl rfl (Nat.le_of_ble_eq_true rfl) (pn 78 rfl ?_)
          rw [if_neg (fun e => hb (eN_to hS.1 b1 hk ⟨hi.1, hB ▸ hi.2⟩ (Or.inr e)))]
          refine e_if_ne 83 dX7_edit_78 (by decide) (fun c_9 => absurd c_9 (by decide)) (fun _ => pn 81 rfl ?_)
          refine e_ic (-1) dX7_edit_81 (by decide) (pn 82 rfl ?_)
          exact e_iret dX7_edit_82 rfl rfl rfl
      · rw [if_neg hi]
        refine e_if_eq 81 dX7_edit_57 (by decide) (fun _ => ?_) (fun c_9 => absurd (by decide) c_9)
        refine e_ic (-1) dX7_edit_81 (by decide) (pn 82 rfl ?_)
        exact e_iret dX7_edit_82 rfl rfl rfl
    refine e_icmp_ne 45 dX7_edit_32 (by decide) (fun c32 => ?_) (fun c32 => pn 35 rfl ?_)
    · refine e_aload_n dX7_edit_45 rfl (pn 46 rfl ?_)
      refine e_get dX7_edit_46 fl_X7_13 hX.1.1 rfl (pn 49 rfl ?_)
      refine e_iload_n dX7_edit_49 rfl (pn 50 rfl ?_)
      refine e_iald (t) dX7_edit_50 hX.1.2.1 rfl (by omega) (by omega) (pn 51 rfl ?_)
      refine e_ic (1) dX7_edit_51 (by decide) (pn 52 rfl ?_)
      refine e_isub dX7_edit_52 (pn 53 rfl ?_)
      rw [hu.1]
      refine e_i2l dX7_edit_53 (pn 54 rfl ?_)
      exact tail _ (by rw [if_neg c32])
    · refine e_aload_n dX7_edit_35 rfl (pn 36 rfl ?_)
      refine e_get dX7_edit_36 fl_X7_13 hX.1.1 rfl (pn 39 rfl ?_)
      refine e_iload_n dX7_edit_39 rfl (pn 40 rfl ?_)
      refine e_iald (t) dX7_edit_40 hX.1.2.1 rfl (by omega) (by omega) (pn 41 rfl ?_)
      rw [hu.1]
      refine e_i2l dX7_edit_41 (pn 42 rfl ?_)
      refine e_goto 54 dX7_edit_42 (by decide) ?_
      exact tail _ (by rw [if_pos c32])
  · rw [if_neg hk]
    refine e_if_eq 81 dX7_edit_23 (by decide) (fun _ => ?_) (fun c_9 => absurd (by decide) c_9)
    refine e_ic (-1) dX7_edit_81 (by decide) (pn 82 rfl ?_)
    exact e_iret dX7_edit_82 rfl rfl rfl
theorem M_editG {w : Wd} {S : St} (h : MI w S) {s t : Nat} (hs : s < 12) (ht : t < 12) {kd j l : Nat} (hk : kd ≤ 2) (hj : if kd = 1 then j ≤ (S.2.1 t).length else j < (S.2.1 t).length) (hl : kd = 0 ∨ l < S.1) {r : Option Value} {w' : Wd} (K : EW mX7_edit none 83 [.ref 41, .int (nI s), .int (nI t), .int (nI kd), .int (nI j), .int (nI l)] [] w r w') : CW mX7_edit [.ref 41, .int (nI s), .int (nI t), .int (nI kd), .int (nI j), .int (nI l)] w r w' := by
  obtain ⟨hS, z, mf, lf, E, nl, g, f, hX, hW, hE⟩ := h
  have b1 := (hS.w ht).1
  have hu := hW.1 t ht
  have hq := hS.1
  refine cw_of (M := mX7_edit) fx_X7_edit (lv := [.ref 41, .int (nI s), .int (nI t), .int (nI kd), .int (nI j), .int (nI l)]) rfl (Nat.le_of_ble_eq_true rfl) ?_
  refine e_iload_n dX7_edit_0 rfl (pn 1 rfl ?_)
  refine c_S1 dX7_edit_1 ml_X7_53 ms_X7_isRegister (by decide) (q_isR w _) rfl rfl (Nat.le_of_ble_eq_true rfl) (pn 4 rfl ?_)
  rw [iR1 hs]
  refine e_if_eq 81 dX7_edit_4 (by decide) (fun c_9 => absurd c_9 (by decide)) (fun _ => pn 7 rfl ?_)
  refine e_iload_n dX7_edit_7 rfl (pn 8 rfl ?_)
  refine c_S1 dX7_edit_8 ml_X7_53 ms_X7_isRegister (by decide) (q_isR w _) rfl rfl (Nat.le_of_ble_eq_true rfl) (pn 11 rfl ?_)
  rw [iR1 ht]
  refine e_if_eq 81 dX7_edit_11 (by decide) (fun c_9 => absurd c_9 (by decide)) (fun _ => pn 14 rfl ?_)
  refine e_iload_n dX7_edit_14 rfl (pn 15 rfl ?_)
  refine e_i2l dX7_edit_15 (pn 16 rfl ?_)
  refine e_lc (0) dX7_edit_16 (by decide) (pn 17 rfl ?_)
  refine e_ldc2 dX7_edit_17 lk_X7_43 (pn 20 rfl ?_)
  refine c_S1 dX7_edit_20 ml_X7_39 ms_X7_in (by decide) (q_in w (nI kd) 0 2 (by decide) (by decide)) rfl rfl (Nat.le_of_ble_eq_true rfl) (pn 23 rfl ?_)
  rw [if_pos ⟨nI_pos' (by omega), nI_le (b := 2) hk (by omega)⟩]
  refine e_if_eq 81 dX7_edit_23 (by decide) (fun c_9 => absurd c_9 (by decide)) (fun _ => pn 26 rfl ?_)
  refine e_iload dX7_edit_26 rfl (pn 28 rfl ?_)
  refine e_i2l dX7_edit_28 (pn 29 rfl ?_)
  refine e_lc (0) dX7_edit_29 (by decide) (pn 30 rfl ?_)
  refine e_iload_n dX7_edit_30 rfl (pn 31 rfl ?_)
  refine e_ic (1) dX7_edit_31 (by decide) (pn 32 rfl ?_)
  have hj25 : j ≤ 24 := by split at hj <;> omega
  have tail : ∀ B : Nat, j ≤ B → B ≤ 24 → EW mX7_edit none 54 [.ref 41, .int (nI s), .int (nI t), .int (nI kd), .int (nI j), .int (nI l)] [.long (nI B).toInt64, .long 0, .long (nI j).toInt64] w r w' := by
    intro B hB hB2
    refine c_S1 dX7_edit_54 ml_X7_39 ms_X7_in (by decide) (q_in w (nI j) 0 (nI B) (by decide) rfl) rfl rfl (Nat.le_of_ble_eq_true rfl) (pn 57 rfl ?_)
    rw [if_pos ⟨nI_pos' (by omega), nI_le hB (by omega)⟩]
    refine e_if_eq 81 dX7_edit_57 (by decide) (fun c_9 => absurd c_9 (by decide)) (fun _ => pn 60 rfl ?_)
    refine e_iload_n dX7_edit_60 rfl (pn 61 rfl ?_)
    by_cases h0 : kd = 0
    · refine e_if_le 83 dX7_edit_61 (by decide) (fun _ => ?_) (fun c_9 => absurd (by rw [h0]; decide) c_9)
      exact K
    · refine e_if_le 83 dX7_edit_61 (by decide) (fun c_9 => absurd c_9 (nI_nle (by omega) (by omega))) (fun _ => pn 64 rfl ?_)
      have hl : l < S.1 := hl.resolve_left h0
      refine e_iload dX7_edit_64 rfl (pn 66 rfl ?_)
      refine e_i2l dX7_edit_66 (pn 67 rfl ?_)
      refine e_lc (0) dX7_edit_67 (by decide) (pn 68 rfl ?_)
      refine e_aload_n dX7_edit_68 rfl (pn 69 rfl ?_)
      refine e_get dX7_edit_69 fl_X7_7 hX.1.1 rfl (pn 72 rfl ?_)
      refine e_ic (1) dX7_edit_72 (by decide) (pn 73 rfl ?_)
      refine e_isub dX7_edit_73 (pn 74 rfl ?_)
      refine e_i2l dX7_edit_74 (pn 75 rfl ?_)
      refine c_S1 dX7_edit_75 ml_X7_39 ms_X7_in (by decide) (q_in w (nI l) 0 (nI S.1 - 1) (by decide) rfl) rfl rfl (Nat.le_of_ble_eq_true rfl) (pn 78 rfl ?_)
      rw [show nI S.1 - 1 = nI (S.1 - 1) from pk_sub (b := 1) (by omega), if_pos ⟨nI_pos' (by omega), nI_le (by omega) (by omega)⟩]
      refine e_if_ne 83 dX7_edit_78 (by decide) (fun _ => ?_) (fun c_9 => absurd c_9 (by decide))
      exact K
  by_cases h1 : kd = 1
  · rw [if_pos h1] at hj
    refine e_icmp_ne 45 dX7_edit_32 (by decide) (fun c_9 => absurd c_9 (fun e => e (by rw [h1]; rfl))) (fun _ => pn 35 rfl ?_)
    refine e_aload_n dX7_edit_35 rfl (pn 36 rfl ?_)
    refine e_get dX7_edit_36 fl_X7_13 hX.1.1 rfl (pn 39 rfl ?_)
    refine e_iload_n dX7_edit_39 rfl (pn 40 rfl ?_)
    refine e_iald (t) dX7_edit_40 hX.1.2.1 rfl (by omega) (by omega) (pn 41 rfl ?_)
    rw [hu.1]
    refine e_i2l dX7_edit_41 (pn 42 rfl ?_)
    refine e_goto 54 dX7_edit_42 (by decide) ?_
    exact tail _ hj b1
  · rw [if_neg h1] at hj
    refine e_icmp_ne 45 dX7_edit_32 (by decide) (fun _ => ?_) (fun c_9 => absurd c_9 (fun e => h1 ((nI_eq (b := 1) (by omega) (by decide)).mp e)))
    refine e_aload_n dX7_edit_45 rfl (pn 46 rfl ?_)
    refine e_get dX7_edit_46 fl_X7_13 hX.1.1 rfl (pn 49 rfl ?_)
    refine e_iload_n dX7_edit_49 rfl (pn 50 rfl ?_)
    refine e_iald (t) dX7_edit_50 hX.1.2.1 rfl (by omega) (by omega) (pn 51 rfl ?_)
    refine e_ic (1) dX7_edit_51 (by decide) (pn 52 rfl ?_)
    refine e_isub dX7_edit_52 (pn 53 rfl ?_)
    rw [hu.1, show nI (S.2.1 t).length - 1 = nI ((S.2.1 t).length - 1) from pk_sub (b := 1) (by omega)]
    refine e_i2l dX7_edit_53 (pn 54 rfl ?_)
    exact tail _ (by omega) (by omega)
theorem M_edit2 {w : Wd} {S : St} (h : MI w S) {s t : Nat} (hs : s < 12) (ht : t < 12) {j l : Nat} (hj : j ≤ (S.2.1 t).length) (hl : l < S.1) (h24 : (S.2.1 t).length = 24) : CW mX7_edit [.ref 41, .int (nI s), .int (nI t), .int (nI 1), .int (nI j), .int (nI l)] w (some (.int (-5))) w := by
  refine M_editG h hs ht (by decide) (by rw [if_pos rfl]; exact hj) (Or.inr hl) ?_
  obtain ⟨hS, z, mf, lf, E, nl, g, f, hX, hW, hE⟩ := h
  refine e_iload_n dX7_edit_83 rfl (pn 84 rfl ?_)
  refine e_ic (1) dX7_edit_84 (by decide) (pn 85 rfl ?_)
  refine e_icmp_ne 102 dX7_edit_85 (by decide) (fun c_9 => absurd c_9 (by decide)) (fun _ => pn 88 rfl ?_)
  refine e_aload_n dX7_edit_88 rfl (pn 89 rfl ?_)
  refine e_get dX7_edit_89 fl_X7_13 hX.1.1 rfl (pn 92 rfl ?_)
  refine e_iload_n dX7_edit_92 rfl (pn 93 rfl ?_)
  refine e_iald (t) dX7_edit_93 hX.1.2.1 rfl (by omega) (by omega) (pn 94 rfl ?_)
  refine e_bi (24) dX7_edit_94 (by decide) (pn 96 rfl ?_)
  rw [(hW.1 t ht).1, h24]
  refine e_icmp_ne 102 dX7_edit_96 (by decide) (fun c_9 => absurd c_9 (by decide)) (fun _ => pn 99 rfl ?_)
  refine e_bi (-5) dX7_edit_99 (by decide) (pn 101 rfl ?_)
  exact e_iret dX7_edit_101 rfl rfl rfl
theorem okQ_ed {q : Nat} (hq : q ≤ 4) {u : List Nat} (ok : okQ q u) {kd j l : Nat} (hk : kd ≤ 2) (hj : if kd = 1 then j ≤ u.length else j < u.length) (hl : kd = 0 ∨ l < q) (h24 : kd = 1 → u.length < 24) : okQ q (edW u kd j l) := by
  have h012 : kd = 0 ∨ kd = 1 ∨ kd = 2 := by omega
  have b1 := ok.1
  rcases h012 with rfl | rfl | rfl
  · rw [if_neg (by decide)] at hj
    rw [edW_0 l hj]
    exact ⟨Nat.le_trans (List.length_eraseIdx_le u j) b1, fun a ha => ok.2 a (List.mem_of_mem_eraseIdx ha)⟩
  · rw [if_pos rfl] at hj
    rw [edW_1 l hj]
    refine ⟨by rw [List.length_insertIdx_of_le_length hj]; have := h24 rfl; omega, fun a ha => ?_⟩
    rcases (List.mem_insertIdx hj).mp ha with h9 | h9
    · omega
    · exact ok.2 a h9
  · rw [if_neg (by decide)] at hj
    rw [edW_2 l hj]
    refine ⟨by rw [List.length_set]; exact b1, fun a ha => ?_⟩
    rcases List.mem_or_eq_of_mem_set ha with h9 | h9
    · exact ok.2 a h9
    · omega
theorem M_edit3 {w : Wd} {S : St} (h : MI w S) {s t : Nat} (hs : s < 12) (ht : t < 12) {kd j l : Nat} (hk : kd ≤ 2) (hj : if kd = 1 then j ≤ (S.2.1 t).length else j < (S.2.1 t).length) (hl : kd = 0 ∨ l < S.1) (h24 : kd = 1 → (S.2.1 t).length < 24) : ∃ w2, CW mX7_edit [.ref 41, .int (nI s), .int (nI t), .int (nI kd), .int (nI j), .int (nI l)] w (some (.int (nI (edW (S.2.1 t) kd j l).length))) w2 ∧ FM w w2 ∧ MI w2 (sReg S s (edW (S.2.1 t) kd j l)) := by
  have h0 := h
  obtain ⟨hS, z, mf, lf, E, nl, g, f, hX, hW, hE⟩ := h
  have ok := okQ_ed hS.1.2 (hS.2.1 t ht) hk hj hl h24
  have b1 := (hS.w ht).1
  have hj25 : j ≤ 24 := by split at hj <;> omega
  have ED := q_edits hX.1 (mf := mf) (lf := lf) (s := 20) (t := t) (by decide) (by omega) (by omega) (hW.1 t ht) b1 (kind := kd) (i := j) (l := l) hk (by omega)
  rw [wA_id hX.1, show edL (S.2.1 t) kd j l ((S.2.1 t).length + 1) 0 [] = edW (S.2.1 t) kd j l from rfl] at ED
  have hv := ok.1
  generalize hev : edW (S.2.1 t) kd j l = v at *
  have W1 := hW.hand hS.2.2.2.1.1 (s := 20) (v := v) (by decide) (by omega) (nI v.length)
  have V1 : wM (va_up mf 20 (nI v.length)) (wrL lf 20 v) 20 v := wM.wr mf lf (by omega)
  have X1 := hX.sA (va_up mf 20 (nI v.length)) (wrL lf 20 v)
  have CP := q_copies hX.1 (mf := va_up mf 20 (nI v.length)) (lf := wrL lf 20 v) (s := s) (t := 20) (by omega) (by decide)
  have X2 := hX.sA (va_up (va_up mf 20 (nI v.length)) s (va_up mf 20 (nI v.length) 20)) (cpF (wrL lf 20 v) s 20 30)
  refine ⟨_, M_editG h0 hs ht hk hj hl ?_, hX.FA (FM.rf w) _ _, hS.reg ok, z, _, _, E, nl, g, f, X2, W1.cp hs V1, hE⟩
  have go : EW mX7_edit none 102 [.ref 41, .int (nI s), .int (nI t), .int (nI kd), .int (nI j), .int (nI l)] [] w (some (.int (nI v.length))) (wA w (va_up (va_up mf 20 (nI v.length)) s (va_up mf 20 (nI v.length) 20)) (cpF (wrL lf 20 v) s 20 30)) := by
    refine e_aload_n dX7_edit_102 rfl (pn 103 rfl ?_)
    refine e_bi (20) dX7_edit_103 (by decide) (pn 105 rfl ?_)
    refine e_iload_n dX7_edit_105 rfl (pn 106 rfl ?_)
    refine e_iload_n dX7_edit_106 rfl (pn 107 rfl ?_)
    refine e_iload dX7_edit_107 rfl (pn 109 rfl ?_)
    refine e_iload dX7_edit_109 rfl (pn 111 rfl ?_)
    refine c_V0 dX7_edit_111 ml_X7_65 mv_X7_edits (by decide) ED hX.1.1 rfl rfl (Nat.le_of_ble_eq_true rfl) (pn 114 rfl ?_)
    refine e_aload_n dX7_edit_114 rfl (pn 115 rfl ?_)
    refine e_iload_n dX7_edit_115 rfl (pn 116 rfl ?_)
    refine e_bi (20) dX7_edit_116 (by decide) (pn 118 rfl ?_)
    refine c_V0 dX7_edit_118 ml_X7_69 mv_X7_copies (by decide) CP X1.1.1 rfl rfl (Nat.le_of_ble_eq_true rfl) (pn 121 rfl ?_)
    refine e_aload_n dX7_edit_121 rfl (pn 122 rfl ?_)
    refine e_get dX7_edit_122 fl_X7_13 X2.1.1 rfl (pn 125 rfl ?_)
    refine e_iload_n dX7_edit_125 rfl (pn 126 rfl ?_)
    refine e_iald (s) dX7_edit_126 X2.1.2.1 rfl (by omega) (by omega) (pn 127 rfl ?_)
    exact e_iret dX7_edit_127 rfl (by rw [up_eq, up_eq]) rfl
  refine e_iload_n dX7_edit_83 rfl (pn 84 rfl ?_)
  refine e_ic (1) dX7_edit_84 (by decide) (pn 85 rfl ?_)
  by_cases h1 : kd = 1
  · refine e_icmp_ne 102 dX7_edit_85 (by decide) (fun c_9 => absurd c_9 (fun e => e (by rw [h1]; rfl))) (fun _ => pn 88 rfl ?_)
    refine e_aload_n dX7_edit_88 rfl (pn 89 rfl ?_)
    refine e_get dX7_edit_89 fl_X7_13 hX.1.1 rfl (pn 92 rfl ?_)
    refine e_iload_n dX7_edit_92 rfl (pn 93 rfl ?_)
    refine e_iald (t) dX7_edit_93 hX.1.2.1 rfl (by omega) (by omega) (pn 94 rfl ?_)
    refine e_bi (24) dX7_edit_94 (by decide) (pn 96 rfl ?_)
    rw [(hW.1 t ht).1]
    refine e_icmp_ne 102 dX7_edit_96 (by decide) (fun _ => ?_) (fun c_9 => absurd c_9 (fun e => by have := h24 h1; have := (nI_eq (b := 24) (by omega) (by decide)).mp e; omega))
    exact go
  · refine e_icmp_ne 102 dX7_edit_85 (by decide) (fun _ => ?_) (fun c_9 => absurd c_9 (fun e => h1 ((nI_eq (b := 1) (by omega) (by decide)).mp e)))
    exact go
/-! code -/
def kN (q : Nat) (n m a b : Int32) : Prop := ∃ n' m' a' : Nat, n = nI n' ∧ m = nI m' ∧ a = nI a' ∧ (1 ≤ n' ∧ n' ≤ 16) ∧ (1 ≤ m' ∧ m' ≤ 64) ∧ a' < m' ∧ (q = 2 ∨ ∃ b' : Nat, b' < q ∧ b = nI b')
theorem kN_to {q : Nat} (hq : 2 ≤ q ∧ q ≤ 4) {n m a b : Int32} (h1 : 1 ≤ n ∧ n ≤ 16) (h2 : 1 ≤ m ∧ m ≤ 64) (h3 : 0 ≤ a ∧ a ≤ m - 1) (h4 : q = 2 ∨ (0 ≤ b ∧ b ≤ nI q - 1)) : kN q n m a b := by
  obtain ⟨n', hn, rfl⟩ := i_nat (a := 1) (b := 16) (by decide) h1.1 h1.2 (by decide)
  obtain ⟨m', hm, rfl⟩ := i_nat (a := 1) (b := 64) (by decide) h2.1 h2.2 (by decide)
  rw [show nI m' - 1 = nI (m' - 1) from pk_sub (b := 1) (by omega)] at h3
  obtain ⟨a', ha, rfl⟩ := i_nat (a := 0) (b := m' - 1) (by omega) h3.1 h3.2 (by decide)
  refine ⟨n', m', a', rfl, rfl, rfl, hn, hm, by omega, ?_⟩
  rcases h4 with h4 | h4
  · exact Or.inl h4
  · rw [show nI q - 1 = nI (q - 1) from pk_sub (b := 1) (by omega)] at h4
    obtain ⟨b', hb, e⟩ := i_nat (a := 0) (b := q - 1) (by omega) h4.1 h4.2 (by decide)
    exact Or.inr ⟨b', by omega, e⟩
theorem M_code0 {w : Wd} {S : St} (h : MI w S) {n m a b : Int32} (hb : ¬ kN S.1 n m a b) : CW mX7_code [.ref 41, .int n, .int m, .int a, .int b] w (some (.int (-1))) w := by
  obtain ⟨hS, z, mf, lf, E, nl, g, f, hX, hW, hE⟩ := h
  have hq := hS.1
  refine cw_of (M := mX7_code) fx_X7_code (lv := [.ref 41, .int n, .int m, .int a, .int b]) rfl (Nat.le_of_ble_eq_true rfl) ?_
  refine e_iload_n dX7_code_0 rfl (pn 1 rfl ?_)
  refine e_i2l dX7_code_1 (pn 2 rfl ?_)
  refine e_lc (1) dX7_code_2 (by decide) (pn 3 rfl ?_)
  refine e_ldc2 dX7_code_3 lk_X7_96 (pn 6 rfl ?_)
  refine c_S1 dX7_code_6 ml_X7_39 ms_X7_in (by decide) (q_in w n 1 16 (by decide) (by decide)) rfl rfl (Nat.le_of_ble_eq_true rfl) (pn 9 rfl ?_)
  by_cases h1 : 1 ≤ n ∧ n ≤ 16
  · rw [if_pos h1]
    refine e_if_eq 62 dX7_code_9 (by decide) (fun c_9 => absurd c_9 (by decide)) (fun _ => pn 12 rfl ?_)
    refine e_iload_n dX7_code_12 rfl (pn 13 rfl ?_)
    refine e_i2l dX7_code_13 (pn 14 rfl ?_)
    refine e_lc (1) dX7_code_14 (by decide) (pn 15 rfl ?_)
    refine e_ldc2 dX7_code_15 lk_X7_98 (pn 18 rfl ?_)
    refine c_S1 dX7_code_18 ml_X7_39 ms_X7_in (by decide) (q_in w m 1 64 (by decide) (by decide)) rfl rfl (Nat.le_of_ble_eq_true rfl) (pn 21 rfl ?_)
    by_cases h2 : 1 ≤ m ∧ m ≤ 64
    · rw [if_pos h2]
      refine e_if_eq 62 dX7_code_21 (by decide) (fun c_9 => absurd c_9 (by decide)) (fun _ => pn 24 rfl ?_)
      refine e_iload_n dX7_code_24 rfl (pn 25 rfl ?_)
      refine e_i2l dX7_code_25 (pn 26 rfl ?_)
      refine e_lc (0) dX7_code_26 (by decide) (pn 27 rfl ?_)
      refine e_iload_n dX7_code_27 rfl (pn 28 rfl ?_)
      refine e_ic (1) dX7_code_28 (by decide) (pn 29 rfl ?_)
      refine e_isub dX7_code_29 (pn 30 rfl ?_)
      refine e_i2l dX7_code_30 (pn 31 rfl ?_)
      refine c_S1 dX7_code_31 ml_X7_39 ms_X7_in (by decide) (q_in w a 0 (m - 1) (by decide) rfl) rfl rfl (Nat.le_of_ble_eq_true rfl) (pn 34 rfl ?_)
      by_cases h3 : 0 ≤ a ∧ a ≤ m - 1
      · rw [if_pos h3]
        refine e_if_eq 62 dX7_code_34 (by decide) (fun c_9 => absurd c_9 (by decide)) (fun _ => pn 37 rfl ?_)
        refine e_aload_n dX7_code_37 rfl (pn 38 rfl ?_)
        refine e_get dX7_code_38 fl_X7_7 hX.1.1 rfl (pn 41 rfl ?_)
        refine e_ic (2) dX7_code_41 (by decide) (pn 42 rfl ?_)
        by_cases h4 : S.1 = 2
        · exact absurd (kN_to hq h1 h2 h3 (Or.inl h4)) hb
        · refine e_icmp_le 64 dX7_code_42 (by decide) (fun c_9 => absurd c_9 (nI_ge (a := 2) (show 2 < S.1 by omega) (show S.1 < 2 ^ 31 by omega))) (fun _ => pn 45 rfl ?_)
          refine e_iload dX7_code_45 rfl (pn 47 rfl ?_)
          refine e_i2l dX7_code_47 (pn 48 rfl ?_)
          refine e_lc (0) dX7_code_48 (by decide) (pn 49 rfl ?_)
          refine e_aload_n dX7_code_49 rfl (pn 50 rfl ?_)
          refine e_get dX7_code_50 fl_X7_7 hX.1.1 rfl (pn 53 rfl ?_)
          refine e_ic (1) dX7_code_53 (by decide) (pn 54 rfl ?_)
          refine e_isub dX7_code_54 (pn 55 rfl ?_)
          refine e_i2l dX7_code_55 (pn 56 rfl ?_)
          refine c_S1 dX7_code_56 ml_X7_39 ms_X7_in (by decide) (q_in w b 0 (nI S.1 - 1) (by decide) rfl) rfl rfl (Nat.le_of_ble_eq_true rfl) (pn 59 rfl ?_)
          rw [if_neg (fun e => hb (kN_to hq h1 h2 h3 (Or.inr e)))]
          refine e_if_ne 64 dX7_code_59 (by decide) (fun c_9 => absurd c_9 (by decide)) (fun _ => pn 62 rfl ?_)
          refine e_ic (-1) dX7_code_62 (by decide) (pn 63 rfl ?_)
          exact e_iret dX7_code_63 rfl rfl rfl
      · rw [if_neg h3]
        refine e_if_eq 62 dX7_code_34 (by decide) (fun _ => ?_) (fun c_9 => absurd (by decide) c_9)
        refine e_ic (-1) dX7_code_62 (by decide) (pn 63 rfl ?_)
        exact e_iret dX7_code_63 rfl rfl rfl
    · rw [if_neg h2]
      refine e_if_eq 62 dX7_code_21 (by decide) (fun _ => ?_) (fun c_9 => absurd (by decide) c_9)
      refine e_ic (-1) dX7_code_62 (by decide) (pn 63 rfl ?_)
      exact e_iret dX7_code_63 rfl rfl rfl
  · rw [if_neg h1]
    refine e_if_eq 62 dX7_code_9 (by decide) (fun _ => ?_) (fun c_9 => absurd (by decide) c_9)
    refine e_ic (-1) dX7_code_62 (by decide) (pn 63 rfl ?_)
    exact e_iret dX7_code_63 rfl rfl rfl
abbrev sCd (S : St) (c : Nat × Nat × Nat × Int32) : St := (S.1, S.2.1, c, S.2.2.2)
theorem SI.cd {S : St} (h : SI S) {n m a : Nat} {b : Int32} (hn : 1 ≤ n ∧ n ≤ 16) (hm : 1 ≤ m ∧ m ≤ 64) (ha : a < m) (hb : S.1 = 2 ∨ ∃ b' : Nat, b' < S.1 ∧ b = nI b') : SI (sCd S (n, m, a, b)) := by
  refine ⟨h.1, h.2.1, fun _ => ⟨⟨hn.2, hm, ha⟩, ?_⟩, h.2.2.2⟩
  have hq := h.1
  by_cases e : S.1 = 2
  · exact Or.inl ⟨e, if_pos e, if_pos e⟩
  · obtain ⟨b', h1, h2⟩ := hb.resolve_left e
    refine Or.inr ⟨e, ?_, ?_, if_neg e⟩
    · show b = nI (if S.1 = 2 then 0 else b.toNatClampNeg)
      rw [if_neg e, h2, nI_clamp (by omega)]
    · show (if S.1 = 2 then 0 else b.toNatClampNeg) < S.1
      rw [if_neg e, h2, nI_clamp (by omega)]
      exact h1
abbrev szN (S : St) : Nat := wy S.1 S.2.2.1.2.1 S.2.2.1.2.2.1 (bNat S) (lmN S) S.2.2.1.1 0 0 0 0
theorem M_code1 {w : Wd} {S : St} (h : MI w S) {n m a : Nat} {b : Int32} (hn : 1 ≤ n ∧ n ≤ 16) (hm : 1 ≤ m ∧ m ≤ 64) (ha : a < m) (hb : S.1 = 2 ∨ ∃ b' : Nat, b' < S.1 ∧ b = nI b') : ∃ w2, CW mX7_code [.ref 41, .int (nI n), .int (nI m), .int (nI a), .int b] w (some (.int (nI (szN (sCd S (n, m, a, b)))))) w2 ∧ FM w w2 ∧ MI w2 (sCd S (n, m, a, b)) := by
  obtain ⟨hS, z, mf, lf, E, nl, g, f, hX, hW, hE⟩ := h
  have hq := hS.1
  have hS2 := hS.cd hn hm ha hb
  have X1 := hX.s41 (sCd S (n, m, a, b)) z
  have F1 := hX.F41 (FM.rf w) (mdS (sCd S (n, m, a, b)) z)
  have hcd : cD (mdS (sCd S (n, m, a, b)) z) := ⟨hq, hn, hm, ha⟩
  obtain ⟨-, hbo⟩ := hS2.2.2.1 hn.1
  have R := ct_right (D := mdS (sCd S (n, m, a, b)) z) (n := n) (q := S.1) (m := m) (a := a) (b := bNat (sCd S (n, m, a, b))) (lm := lmN (sCd S (n, m, a, b))) ⟨rfl, rfl, rfl, rfl, hbo, hq, by omega, hm.2⟩ E
  have Q := q_counts X1.1.1 hcd X1.2.1
  have X2 := X1.s44 (ctI (mdS (sCd S (n, m, a, b)) z) (n + 1) E)
  refine ⟨_, ?_, X1.F44 F1 _, hS2, z, _, _, _, nl, g, f, X2, hW, fun _ => R⟩
  refine cw_of (M := mX7_code) fx_X7_code (lv := [.ref 41, .int (nI n), .int (nI m), .int (nI a), .int b]) rfl (Nat.le_of_ble_eq_true rfl) ?_
  refine e_iload_n dX7_code_0 rfl (pn 1 rfl ?_)
  refine e_i2l dX7_code_1 (pn 2 rfl ?_)
  refine e_lc (1) dX7_code_2 (by decide) (pn 3 rfl ?_)
  refine e_ldc2 dX7_code_3 lk_X7_96 (pn 6 rfl ?_)
  refine c_S1 dX7_code_6 ml_X7_39 ms_X7_in (by decide) (q_in w (nI n) 1 16 (by decide) (by decide)) rfl rfl (Nat.le_of_ble_eq_true rfl) (pn 9 rfl ?_)
  rw [if_pos ⟨nI_le (a := 1) hn.1 (by omega), nI_le (b := 16) hn.2 (by omega)⟩]
  refine e_if_eq 62 dX7_code_9 (by decide) (fun c_9 => absurd c_9 (by decide)) (fun _ => pn 12 rfl ?_)
  refine e_iload_n dX7_code_12 rfl (pn 13 rfl ?_)
  refine e_i2l dX7_code_13 (pn 14 rfl ?_)
  refine e_lc (1) dX7_code_14 (by decide) (pn 15 rfl ?_)
  refine e_ldc2 dX7_code_15 lk_X7_98 (pn 18 rfl ?_)
  refine c_S1 dX7_code_18 ml_X7_39 ms_X7_in (by decide) (q_in w (nI m) 1 64 (by decide) (by decide)) rfl rfl (Nat.le_of_ble_eq_true rfl) (pn 21 rfl ?_)
  rw [if_pos ⟨nI_le (a := 1) hm.1 (by omega), nI_le (b := 64) hm.2 (by omega)⟩]
  refine e_if_eq 62 dX7_code_21 (by decide) (fun c_9 => absurd c_9 (by decide)) (fun _ => pn 24 rfl ?_)
  refine e_iload_n dX7_code_24 rfl (pn 25 rfl ?_)
  refine e_i2l dX7_code_25 (pn 26 rfl ?_)
  refine e_lc (0) dX7_code_26 (by decide) (pn 27 rfl ?_)
  refine e_iload_n dX7_code_27 rfl (pn 28 rfl ?_)
  refine e_ic (1) dX7_code_28 (by decide) (pn 29 rfl ?_)
  refine e_isub dX7_code_29 (pn 30 rfl ?_)
  refine e_i2l dX7_code_30 (pn 31 rfl ?_)
  refine c_S1 dX7_code_31 ml_X7_39 ms_X7_in (by decide) (q_in w (nI a) 0 (nI m - 1) (by decide) rfl) rfl rfl (Nat.le_of_ble_eq_true rfl) (pn 34 rfl ?_)
  rw [show nI m - 1 = nI (m - 1) from pk_sub (b := 1) (by omega), if_pos ⟨nI_pos' (by omega), nI_le (by omega) (by omega)⟩]
  refine e_if_eq 62 dX7_code_34 (by decide) (fun c_9 => absurd c_9 (by decide)) (fun _ => pn 37 rfl ?_)
  refine e_aload_n dX7_code_37 rfl (pn 38 rfl ?_)
  refine e_get dX7_code_38 fl_X7_7 hX.1.1 rfl (pn 41 rfl ?_)
  refine e_ic (2) dX7_code_41 (by decide) (pn 42 rfl ?_)
  have go : EW mX7_code none 64 [.ref 41, .int (nI n), .int (nI m), .int (nI a), .int b] [] w (some (.int (nI (szN (sCd S (n, m, a, b)))))) ((w.set 41 (mdF (mdS (sCd S (n, m, a, b)) z))).set 44 (aI 17408 (ctI (mdS (sCd S (n, m, a, b)) z) (n + 1) E))) := by
    refine e_aload_n dX7_code_64 rfl (pn 65 rfl ?_)
    refine e_iload_n dX7_code_65 rfl (pn 66 rfl ?_)
    refine e_put dX7_code_66 fp_X7_47 hX.1.1 rfl (Nat.le_of_ble_eq_true rfl) (pn 69 rfl ?_)
    refine e_aload_n dX7_code_69 rfl (pn 70 rfl ?_)
    refine e_iload_n dX7_code_70 rfl (pn 71 rfl ?_)
    refine e_put dX7_code_71 fp_X7_76 (gse hX.1.1) rfl (Nat.le_of_ble_eq_true rfl) (pn 74 rfl ?_)
    refine e_aload_n dX7_code_74 rfl (pn 75 rfl ?_)
    refine e_iload_n dX7_code_75 rfl (pn 76 rfl ?_)
    refine e_put dX7_code_76 fp_X7_79 (gse (gse hX.1.1)) rfl (Nat.le_of_ble_eq_true rfl) (pn 79 rfl ?_)
    refine e_aload_n dX7_code_79 rfl (pn 80 rfl ?_)
    refine e_iload dX7_code_80 rfl (pn 82 rfl ?_)
    refine e_put dX7_code_82 fp_X7_85 (gse (gse (gse hX.1.1))) rfl (Nat.le_of_ble_eq_true rfl) (pn 85 rfl ?_)
    refine pw (w1 := w.set 41 (mdF (mdS (sCd S (n, m, a, b)) z))) (by rw [List.set_set, List.set_set, List.set_set]; rfl) ?_
    refine e_aload_n dX7_code_85 rfl (pn 86 rfl ?_)
    refine c_V0 dX7_code_86 ml_X7_100 mv_X7_counts (by decide) Q X1.1.1 rfl rfl (Nat.le_of_ble_eq_true rfl) (pn 89 rfl ?_)
    refine e_aload_n dX7_code_89 rfl (pn 90 rfl ?_)
    refine c_V1 dX7_code_90 ml_X7_103 mv_X7_codeSize (by decide) (q_codeSize X2.1.1 X2.2.1) X2.1.1 rfl rfl (Nat.le_of_ble_eq_true rfl) (pn 93 rfl ?_)
    have R0 := R 0 (Nat.zero_le _) 0 0 0 (show 0 < S.1 by omega) (show 0 < m by omega) (show 0 < S.1 by omega)
    unfold Rm at R0
    rw [Nat.zero_mod, Nat.sub_zero] at R0
    exact e_iret dX7_code_93 rfl (by rw [show (0 : Nat) = staN 0 0 0 0 from rfl, R0]) rfl
  by_cases h4 : S.1 = 2
  · refine e_icmp_le 64 dX7_code_42 (by decide) (fun _ => ?_) (fun c_9 => absurd (by show nI S.1 ≤ 2; rw [h4]; decide) c_9)
    exact go
  · refine e_icmp_le 64 dX7_code_42 (by decide) (fun c_9 => absurd c_9 (nI_ge (a := 2) (show 2 < S.1 by omega) (show S.1 < 2 ^ 31 by omega))) (fun _ => pn 45 rfl ?_)
    obtain ⟨b', h5, h6⟩ := hb.resolve_left h4
    refine e_iload dX7_code_45 rfl (pn 47 rfl ?_)
    refine e_i2l dX7_code_47 (pn 48 rfl ?_)
    refine e_lc (0) dX7_code_48 (by decide) (pn 49 rfl ?_)
    refine e_aload_n dX7_code_49 rfl (pn 50 rfl ?_)
    refine e_get dX7_code_50 fl_X7_7 hX.1.1 rfl (pn 53 rfl ?_)
    refine e_ic (1) dX7_code_53 (by decide) (pn 54 rfl ?_)
    refine e_isub dX7_code_54 (pn 55 rfl ?_)
    refine e_i2l dX7_code_55 (pn 56 rfl ?_)
    refine c_S1 dX7_code_56 ml_X7_39 ms_X7_in (by decide) (q_in w b 0 (nI S.1 - 1) (by decide) rfl) rfl rfl (Nat.le_of_ble_eq_true rfl) (pn 59 rfl ?_)
    rw [show nI S.1 - 1 = nI (S.1 - 1) from pk_sub (b := 1) (by omega), h6, if_pos ⟨nI_pos' (by omega), nI_le (by omega) (by omega)⟩]
    refine e_if_ne 64 dX7_code_59 (by decide) (fun _ => ?_) (fun c_9 => absurd c_9 (by decide))
    rw [← h6]
    exact go
