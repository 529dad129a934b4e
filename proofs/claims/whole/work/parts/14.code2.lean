/-! LostLetters$Code: room, tell, sums, membership, writing, neighbours -/
theorem d_stands {w : Wd} {wr q n m a b lm : Nat} {sz : Int32} (h : w[15]? = some (cdF wr q n m a b lm sz)) (hn : n < 2 ^ 31) : CW mX0_stands [.ref 15] w (some (.int (if n = 0 then 0 else 1))) w := by
  refine cw_of (M := mX0_stands) fx_X0_stands (lv := [.ref 15]) rfl (Nat.le_of_ble_eq_true rfl) ?_
  refine e_aload_n dX0_stands_0 rfl (pn 1 rfl ?_)
  refine e_get dX0_stands_1 fl_X0_35 h rfl (pn 4 rfl ?_)
  refine e_if_le 11 dX0_stands_4 (by decide) (fun c4 => ?_) (fun c4 => pn 7 rfl ?_)
  · have hc : n = 0 := Nat.eq_zero_of_not_pos (fun e => nI_nle e hn c4)
    refine e_ic (0) dX0_stands_11 (by decide) (pn 12 rfl ?_)
    exact e_zret dX0_stands_12 rfl (by decide) (by rw [if_pos hc]) rfl
  · have hc : ¬ n = 0 := fun e => c4 (by rw [e]; decide)
    refine e_ic (1) dX0_stands_7 (by decide) (pn 8 rfl ?_)
    refine e_goto 12 dX0_stands_8 (by decide) ?_
    exact e_zret dX0_stands_12 rfl (by decide) (by rw [if_neg hc]) rfl
theorem d_forget {w : Wd} {wr q n m a b lm : Nat} {sz : Int32} (h : w[15]? = some (cdF wr q n m a b lm sz)) : CW mX0_forget [.ref 15] w none (w.set 15 (cdF wr q 0 m a b lm sz)) := by
  refine cw_of (M := mX0_forget) fx_X0_forget (lv := [.ref 15]) rfl (Nat.le_of_ble_eq_true rfl) ?_
  refine e_aload_n dX0_forget_0 rfl (pn 1 rfl ?_)
  refine e_ic (0) dX0_forget_1 (by decide) (pn 2 rfl ?_)
  refine e_put dX0_forget_2 fp_X0_35 h rfl (Nat.le_of_ble_eq_true rfl) (pn 5 rfl ?_)
  exact e_vret dX0_forget_5 rfl rfl rfl
def ceC (q n m lm : Nat) : Nat := (n - 1) * q * m * lm
theorem ceC_le {q n m a b lm : Nat} (h : cP q n m a b lm) : ceC q n m lm ≤ 15360 := by
  obtain ⟨hq, hn, hm, ha, hb, hlm⟩ := h
  exact Nat.mul_le_mul (Nat.mul_le_mul (Nat.mul_le_mul (show n - 1 ≤ 15 by omega) hq.2) hm.2) hlm.2
def mrN (c len : Nat) : Nat := if c < (if 15360 < 2 * len then 15360 else 2 * len) then (if 15360 < 2 * len then 15360 else 2 * len) else c
theorem mrN_le {c len : Nat} (h : c ≤ 15360) : mrN c len ≤ 15360 ∧ c ≤ mrN c len := by
  unfold mrN
  split <;> split at * <;> omega
theorem mr_val {c len : Nat} (hc : c ≤ 15360) (hl : len ≤ 15360) : (if nI c < (if (15360 : Int32) < 2 * nI len then 15360 else 2 * nI len) then (if (15360 : Int32) < 2 * nI len then 15360 else 2 * nI len) else nI c) = nI (mrN c len) := by
  rw [n2]
  have e : (if (15360 : Int32) < nI (2 * len) then (15360 : Int32) else nI (2 * len)) = nI (if 15360 < 2 * len then 15360 else 2 * len) := by
    rw [show (15360 : Int32) = nI 15360 from rfl]
    by_cases h : 15360 < 2 * len
    · rw [if_pos h, if_pos (nI_lt h (by omega))]
    · rw [if_neg h, if_neg (nI_nlt (by omega) (by omega))]
  rw [e]
  generalize hy : (if 15360 < 2 * len then 15360 else 2 * len) = y
  have hy2 : y ≤ 30720 := by rw [← hy]; split <;> omega
  unfold mrN
  rw [hy]
  by_cases h : c < y
  · rw [if_pos h, if_pos (nI_lt h (by omega))]
  · rw [if_neg h, if_neg (nI_nlt (by omega) (by omega))]
theorem ce_val (q n m lm : Nat) (hn : 1 ≤ n) : (nI n - 1) * nI q * nI m * nI lm = nI (ceC q n m lm) := by
  rw [show nI n - 1 = nI (n - 1) from pk_sub (b := 1) hn, pk_mul, pk_mul, pk_mul, ceC]
theorem d_room1 {w : Wd} {wr len q n m a b lm : Nat} {f : Nat → Int32} {sz : Int32} (h : w[15]? = some (cdF wr q n m a b lm sz)) (hw : w[wr]? = some (aI len f)) (hl : len ≤ 15360) (hP : cP q n m a b lm) (hc : ceC q n m lm ≤ len) : CW mX0_makeRoom [.ref 15] w none w := by
  refine cw_of (M := mX0_makeRoom) fx_X0_makeRoom (lv := [.ref 15, dmy]) rfl (Nat.le_of_ble_eq_true rfl) ?_
  refine e_aload_n dX0_makeRoom_0 rfl (pn 1 rfl ?_)
  refine e_get dX0_makeRoom_1 fl_X0_35 h rfl (pn 4 rfl ?_)
  refine e_ic (1) dX0_makeRoom_4 (by decide) (pn 5 rfl ?_)
  refine e_isub dX0_makeRoom_5 (pn 6 rfl ?_)
  refine e_aload_n dX0_makeRoom_6 rfl (pn 7 rfl ?_)
  refine e_get dX0_makeRoom_7 fl_X0_25 h rfl (pn 10 rfl ?_)
  refine e_imul dX0_makeRoom_10 (pn 11 rfl ?_)
  refine e_aload_n dX0_makeRoom_11 rfl (pn 12 rfl ?_)
  refine e_get dX0_makeRoom_12 fl_X0_29 h rfl (pn 15 rfl ?_)
  refine e_imul dX0_makeRoom_15 (pn 16 rfl ?_)
  refine e_aload_n dX0_makeRoom_16 rfl (pn 17 rfl ?_)
  refine e_get dX0_makeRoom_17 fl_X0_32 h rfl (pn 20 rfl ?_)
  refine e_imul dX0_makeRoom_20 (pn 21 rfl ?_)
  rw [ce_val _ _ _ _ hP.2.1.1]
  refine s_in [_, _] dX0_makeRoom_21 (Nat.le_of_ble_eq_true rfl) rfl (pn 22 rfl ?_)
  refine e_iload_n dX0_makeRoom_22 rfl (pn 23 rfl ?_)
  refine e_aload_n dX0_makeRoom_23 rfl (pn 24 rfl ?_)
  refine e_get dX0_makeRoom_24 fl_X0_21 h rfl (pn 27 rfl ?_)
  refine e_alenI dX0_makeRoom_27 hw (pn 28 rfl ?_)
  refine e_icmp_le 54 dX0_makeRoom_28 (by decide) (fun c28 => ?_) (fun c28 => pn 31 rfl ?_)
  · exact e_vret dX0_makeRoom_54 rfl rfl rfl
  · exact absurd (nI_le hc (by omega)) c28
theorem d_room2 {w : Wd} {wr len q n m a b lm : Nat} {f : Nat → Int32} {sz : Int32} (h : w[15]? = some (cdF wr q n m a b lm sz)) (hw : w[wr]? = some (aI len f)) (hl : len ≤ 15360) (hP : cP q n m a b lm) (hc : len < ceC q n m lm) : CW mX0_makeRoom [.ref 15] w none ((w ++ [aI (mrN (ceC q n m lm) len) (fun _ => 0)]).set 15 (cdF w.length q n m a b lm sz)) := by
  have hcc := ceC_le hP
  have hm := mrN_le (len := len) hcc
  have hlt : 15 < w.length := (List.getElem?_eq_some_iff.mp h).1
  refine cw_of (M := mX0_makeRoom) fx_X0_makeRoom (lv := [.ref 15, dmy]) rfl (Nat.le_of_ble_eq_true rfl) ?_
  refine e_aload_n dX0_makeRoom_0 rfl (pn 1 rfl ?_)
  refine e_get dX0_makeRoom_1 fl_X0_35 h rfl (pn 4 rfl ?_)
  refine e_ic (1) dX0_makeRoom_4 (by decide) (pn 5 rfl ?_)
  refine e_isub dX0_makeRoom_5 (pn 6 rfl ?_)
  refine e_aload_n dX0_makeRoom_6 rfl (pn 7 rfl ?_)
  refine e_get dX0_makeRoom_7 fl_X0_25 h rfl (pn 10 rfl ?_)
  refine e_imul dX0_makeRoom_10 (pn 11 rfl ?_)
  refine e_aload_n dX0_makeRoom_11 rfl (pn 12 rfl ?_)
  refine e_get dX0_makeRoom_12 fl_X0_29 h rfl (pn 15 rfl ?_)
  refine e_imul dX0_makeRoom_15 (pn 16 rfl ?_)
  refine e_aload_n dX0_makeRoom_16 rfl (pn 17 rfl ?_)
  refine e_get dX0_makeRoom_17 fl_X0_32 h rfl (pn 20 rfl ?_)
  refine e_imul dX0_makeRoom_20 (pn 21 rfl ?_)
  rw [ce_val _ _ _ _ hP.2.1.1]
  refine s_in [_, _] dX0_makeRoom_21 (Nat.le_of_ble_eq_true rfl) rfl (pn 22 rfl ?_)
  refine e_iload_n dX0_makeRoom_22 rfl (pn 23 rfl ?_)
  refine e_aload_n dX0_makeRoom_23 rfl (pn 24 rfl ?_)
  refine e_get dX0_makeRoom_24 fl_X0_21 h rfl (pn 27 rfl ?_)
  refine e_alenI dX0_makeRoom_27 hw (pn 28 rfl ?_)
  refine e_icmp_le 54 dX0_makeRoom_28 (by decide) (fun c28 => ?_) (fun c28 => pn 31 rfl ?_)
  · exact absurd c28 (nI_ge hc (by omega))
  · refine e_aload_n dX0_makeRoom_31 rfl (pn 32 rfl ?_)
    refine e_iload_n dX0_makeRoom_32 rfl (pn 33 rfl ?_)
    refine e_ic (2) dX0_makeRoom_33 (by decide) (pn 34 rfl ?_)
    refine e_aload_n dX0_makeRoom_34 rfl (pn 35 rfl ?_)
    refine e_get dX0_makeRoom_35 fl_X0_21 h rfl (pn 38 rfl ?_)
    refine e_alenI dX0_makeRoom_38 hw (pn 39 rfl ?_)
    refine e_imul dX0_makeRoom_39 (pn 40 rfl ?_)
    refine e_si (15360) dX0_makeRoom_40 (by decide) (pn 43 rfl ?_)
    refine e_mmin dX0_makeRoom_43 lm_X0_50 (by decide) (Nat.le_of_ble_eq_true rfl) (pn 46 rfl ?_)
    refine e_mmax dX0_makeRoom_46 lm_X0_56 (by decide) (Nat.le_of_ble_eq_true rfl) (pn 49 rfl ?_)
    rw [mr_val hcc hl]
    refine e_newI (mrN (ceC q n m lm) len) dX0_makeRoom_49 rfl (by omega) la_I (pn 51 rfl ?_)
    have h2 : (w ++ [aI (mrN (ceC q n m lm) len) (fun _ => 0)])[15]? = some (cdF wr q n m a b lm sz) := by rw [List.getElem?_append_left hlt]; exact h
    refine e_put dX0_makeRoom_51 fp_X0_21 h2 rfl (Nat.le_of_ble_eq_true rfl) (pn 54 rfl ?_)
    exact e_vret dX0_makeRoom_54 rfl rfl rfl
theorem d_tell_to {w : Wd} {wr q0 n0 m0 a0 b0 lm0 : Nat} {sz : Int32} (h : w[15]? = some (cdF wr q0 n0 m0 a0 b0 lm0 sz)) {q n m a b lm : Nat} {bA : Int32} (hq : q ≤ 4) (hb : (if q = 2 then (0 : Int32) else bA) = nI b) (hlm : lm = if q = 2 then 1 else q) {r : Option Value} {w' : Wd} (K : EW mX0_tell none 50 [.ref 15, .int (nI q), .int (nI n), .int (nI m), .int (nI a), .int bA] [] (w.set 15 (cdF wr q n m a b lm sz)) r w') : EW mX0_tell none 0 [.ref 15, .int (nI q), .int (nI n), .int (nI m), .int (nI a), .int bA] [] w r w' := by
  refine e_aload_n dX0_tell_0 rfl (pn 1 rfl ?_)
  refine e_iload_n dX0_tell_1 rfl (pn 2 rfl ?_)
  refine e_put dX0_tell_2 fp_X0_25 h rfl (Nat.le_of_ble_eq_true rfl) (pn 5 rfl ?_)
  refine e_aload_n dX0_tell_5 rfl (pn 6 rfl ?_)
  refine e_iload_n dX0_tell_6 rfl (pn 7 rfl ?_)
  refine e_put dX0_tell_7 fp_X0_35 (gse h) rfl (Nat.le_of_ble_eq_true rfl) (pn 10 rfl ?_)
  refine e_aload_n dX0_tell_10 rfl (pn 11 rfl ?_)
  refine e_iload_n dX0_tell_11 rfl (pn 12 rfl ?_)
  refine e_put dX0_tell_12 fp_X0_29 (gse (gse h)) rfl (Nat.le_of_ble_eq_true rfl) (pn 15 rfl ?_)
  refine e_aload_n dX0_tell_15 rfl (pn 16 rfl ?_)
  refine e_iload dX0_tell_16 rfl (pn 18 rfl ?_)
  refine e_put dX0_tell_18 fp_X0_38 (gse (gse (gse h))) rfl (Nat.le_of_ble_eq_true rfl) (pn 21 rfl ?_)
  refine e_aload_n dX0_tell_21 rfl (pn 22 rfl ?_)
  refine e_iload_n dX0_tell_22 rfl (pn 23 rfl ?_)
  refine e_ic (2) dX0_tell_23 (by decide) (pn 24 rfl ?_)
  have g4 := gse (e := oB 0 [.ref 16, .ref 17, .ref wr, .int (nI q), .int (nI n), .int (nI m), .int (nI a), .int (nI b0), .int (nI lm0), .int sz]) h
  simp only [List.set_set]
  by_cases hc : q = 2
  · rw [if_pos hc] at hb hlm
    subst hlm
    refine e_icmp_ne 31 dX0_tell_24 (by decide) (fun c24 => ?_) (fun c24 => pn 27 rfl ?_)
    · exact absurd (by rw [hc]; rfl) c24
    · refine e_ic (0) dX0_tell_27 (by decide) (pn 28 rfl ?_)
      refine e_goto 33 dX0_tell_28 (by decide) ?_
      refine e_put dX0_tell_33 fp_X0_41 g4 rfl (Nat.le_of_ble_eq_true rfl) (pn 36 rfl ?_)
      refine e_aload_n dX0_tell_36 rfl (pn 37 rfl ?_)
      refine e_iload_n dX0_tell_37 rfl (pn 38 rfl ?_)
      refine e_ic (2) dX0_tell_38 (by decide) (pn 39 rfl ?_)
      rw [List.set_set, hb]
      refine e_icmp_ne 46 dX0_tell_39 (by decide) (fun c39 => ?_) (fun c39 => pn 42 rfl ?_)
      · exact absurd (by rw [hc]; rfl) c39
      · refine e_ic (1) dX0_tell_42 (by decide) (pn 43 rfl ?_)
        refine e_goto 47 dX0_tell_43 (by decide) ?_
        refine e_put dX0_tell_47 fp_X0_32 (gse h) rfl (Nat.le_of_ble_eq_true rfl) (pn 50 rfl ?_)
        rw [List.set_set]
        exact K
  · rw [if_neg hc] at hb hlm
    subst hlm
    subst hb
    refine e_icmp_ne 31 dX0_tell_24 (by decide) (fun c24 => ?_) (fun c24 => pn 27 rfl ?_)
    · refine e_iload dX0_tell_31 rfl (pn 33 rfl ?_)
      refine e_put dX0_tell_33 fp_X0_41 g4 rfl (Nat.le_of_ble_eq_true rfl) (pn 36 rfl ?_)
      refine e_aload_n dX0_tell_36 rfl (pn 37 rfl ?_)
      refine e_iload_n dX0_tell_37 rfl (pn 38 rfl ?_)
      refine e_ic (2) dX0_tell_38 (by decide) (pn 39 rfl ?_)
      rw [List.set_set]
      refine e_icmp_ne 46 dX0_tell_39 (by decide) (fun c39 => ?_) (fun c39 => pn 42 rfl ?_)
      · refine e_iload_n dX0_tell_46 rfl (pn 47 rfl ?_)
        refine e_put dX0_tell_47 fp_X0_32 (gse h) rfl (Nat.le_of_ble_eq_true rfl) (pn 50 rfl ?_)
        rw [List.set_set]
        exact K
      · exact absurd ((nI_eq (b := 2) (by omega) (by omega)).mp c39) hc
    · exact absurd ((nI_eq (b := 2) (by omega) (by omega)).mp c24) hc
theorem d_tell1 {w : Wd} {wr len q0 n0 m0 a0 b0 lm0 : Nat} {f : Nat → Int32} {sz : Int32} (h : w[15]? = some (cdF wr q0 n0 m0 a0 b0 lm0 sz)) (hw : w[wr]? = some (aI len f)) (hl : len ≤ 15360) {q n m a b lm : Nat} {bA : Int32} (hP : cP q n m a b lm) (hb : (if q = 2 then (0 : Int32) else bA) = nI b) (hlm : lm = if q = 2 then 1 else q) (hc : ceC q n m lm ≤ len) : CW mX0_tell [.ref 15, .int (nI q), .int (nI n), .int (nI m), .int (nI a), .int bA] w none (((w.set 15 (cdF wr q n m a b lm sz)).set wr (aI len (cwP q n m a b lm (n - 1) f))).set 15 (cdF wr q n m a b lm (wbS (cwP q n m a b lm (n - 1) f) q n m a b lm 0 0 0 0 q))) := by
  have hne : 15 ≠ wr := fun e => by rw [← e, h] at hw; cases hw
  have h1 : (w.set 15 (cdF wr q n m a b lm sz))[15]? = some (cdF wr q n m a b lm sz) := gse h
  have h2 : (w.set 15 (cdF wr q n m a b lm sz))[wr]? = some (aI len f) := gne hne hw
  refine cw_of (M := mX0_tell) fx_X0_tell (lv := [.ref 15, .int (nI q), .int (nI n), .int (nI m), .int (nI a), .int bA]) rfl (Nat.le_of_ble_eq_true rfl) ?_
  refine d_tell_to h hP.1.2 hb hlm ?_
  refine e_aload_n dX0_tell_50 rfl (pn 51 rfl ?_)
  refine c_V0 dX0_tell_51 ml_X0_44 mv_X0_makeRoom (by decide) (d_room1 h1 h2 hl hP hc) h1 rfl rfl (Nat.le_of_ble_eq_true rfl) (pn 54 rfl ?_)
  refine e_aload_n dX0_tell_54 rfl (pn 55 rfl ?_)
  refine c_V0 dX0_tell_55 ml_X0_47 mv_X0_countWays (by decide) (d_cW ⟨h1, h2, hc, hl, hP⟩) h1 rfl rfl (Nat.le_of_ble_eq_true rfl) (pn 58 rfl ?_)
  exact e_vret dX0_tell_58 rfl rfl rfl
theorem d_tell2 {w : Wd} {wr len q0 n0 m0 a0 b0 lm0 : Nat} {f : Nat → Int32} {sz : Int32} (h : w[15]? = some (cdF wr q0 n0 m0 a0 b0 lm0 sz)) (hw : w[wr]? = some (aI len f)) (hl : len ≤ 15360) {q n m a b lm : Nat} {bA : Int32} (hP : cP q n m a b lm) (hb : (if q = 2 then (0 : Int32) else bA) = nI b) (hlm : lm = if q = 2 then 1 else q) (hc : len < ceC q n m lm) : CW mX0_tell [.ref 15, .int (nI q), .int (nI n), .int (nI m), .int (nI a), .int bA] w none (((((w.set 15 (cdF wr q n m a b lm sz)) ++ [aI (mrN (ceC q n m lm) len) (fun _ => 0)]).set 15 (cdF w.length q n m a b lm sz)).set w.length (aI (mrN (ceC q n m lm) len) (cwP q n m a b lm (n - 1) (fun _ => 0)))).set 15 (cdF w.length q n m a b lm (wbS (cwP q n m a b lm (n - 1) (fun _ => 0)) q n m a b lm 0 0 0 0 q))) := by
  have hne : 15 ≠ wr := fun e => by rw [← e, h] at hw; cases hw
  have hlt : 15 < w.length := (List.getElem?_eq_some_iff.mp h).1
  have hm := mrN_le (len := len) (ceC_le hP)
  have h1 : (w.set 15 (cdF wr q n m a b lm sz))[15]? = some (cdF wr q n m a b lm sz) := gse h
  have h2 : (w.set 15 (cdF wr q n m a b lm sz))[wr]? = some (aI len f) := gne hne hw
  have hR := d_room2 h1 h2 hl hP hc
  rw [List.length_set] at hR
  have h3 : (((w.set 15 (cdF wr q n m a b lm sz)) ++ [aI (mrN (ceC q n m lm) len) (fun _ => 0)]).set 15 (cdF w.length q n m a b lm sz))[15]? = some (cdF w.length q n m a b lm sz) := gse (e0 := cdF wr q n m a b lm sz) (by rw [List.getElem?_append_left (by rw [List.length_set]; exact hlt)]; exact h1)
  have h4 : (((w.set 15 (cdF wr q n m a b lm sz)) ++ [aI (mrN (ceC q n m lm) len) (fun _ => 0)]).set 15 (cdF w.length q n m a b lm sz))[w.length]? = some (aI (mrN (ceC q n m lm) len) (fun _ => 0)) := gne (by omega) (by rw [List.getElem?_append_right (by rw [List.length_set]; exact Nat.le_refl _), List.length_set, Nat.sub_self]; rfl)
  refine cw_of (M := mX0_tell) fx_X0_tell (lv := [.ref 15, .int (nI q), .int (nI n), .int (nI m), .int (nI a), .int bA]) rfl (Nat.le_of_ble_eq_true rfl) ?_
  refine d_tell_to h hP.1.2 hb hlm ?_
  refine e_aload_n dX0_tell_50 rfl (pn 51 rfl ?_)
  refine c_V0 dX0_tell_51 ml_X0_44 mv_X0_makeRoom (by decide) hR h1 rfl rfl (Nat.le_of_ble_eq_true rfl) (pn 54 rfl ?_)
  refine e_aload_n dX0_tell_54 rfl (pn 55 rfl ?_)
  refine c_V0 dX0_tell_55 ml_X0_47 mv_X0_countWays (by decide) (d_cW ⟨h3, h4, hm.2, hm.1, hP⟩) h3 rfl rfl (Nat.le_of_ble_eq_true rfl) (pn 58 rfl ?_)
  exact e_vret dX0_tell_58 rfl rfl rfl
/-! sums and membership -/
def soF (q m : Nat) (u : List Nat) : Nat → Nat → Nat → Nat → Nat
  | 0, _, s, _ => s
  | k + 1, i, s, last => soF q m u k (i + 1) (swN q m s (i + 1) last (u.getD i 0)) (u.getD i 0)
def soV (q m : Nat) (u : List Nat) : Nat := soF q m u u.length 0 0 0
theorem d_sumOf {w : Wd} {wr q n m a b lm x : Nat} {sz : Int32} (h : w[15]? = some (cdF wr q n m a b lm sz)) (hq : q ≤ 4) (hm : 1 ≤ m ∧ m ≤ 64) {u : List Nat} (hx : w[x]? = some (rowW u)) (ok : okW u) : CW mX0_sumOf [.ref 15, .ref x] w (some (.int (nI (soV q m u)))) w := by
  have b1 := ok.1
  have loop : ∀ (k i s last : Nat), i + k = u.length → s < m → last < 4 → EW mX0_sumOf none 7 [.ref 15, .ref x, .int (nI s), .int (nI last), .int (nI i), dmy] [] w (some (.int (nI (soF q m u k i s last)))) w := by
    intro k
    induction k with
    | zero =>
      intro i s last hi hs hla
      refine e_iload dX0_sumOf_7 rfl (pn 9 rfl ?_)
      refine e_aload_n dX0_sumOf_9 rfl (pn 10 rfl ?_)
      refine e_get dX0_sumOf_10 fl_X0_79 hx rfl (pn 13 rfl ?_)
      refine e_icmp_ge 46 dX0_sumOf_13 (by decide) (fun c13 => ?_) (fun c13 => pn 16 rfl ?_)
      · refine e_iload_n dX0_sumOf_46 rfl (pn 47 rfl ?_)
        exact e_iret dX0_sumOf_47 rfl rfl rfl
      · exact absurd (nI_le (by omega) (by omega)) c13
    | succ k ih =>
      intro i s last hi hs hla
      have hl4 := okL_get ok.2 i
      refine e_iload dX0_sumOf_7 rfl (pn 9 rfl ?_)
      refine e_aload_n dX0_sumOf_9 rfl (pn 10 rfl ?_)
      refine e_get dX0_sumOf_10 fl_X0_79 hx rfl (pn 13 rfl ?_)
      refine e_icmp_ge 46 dX0_sumOf_13 (by decide) (fun c13 => ?_) (fun c13 => pn 16 rfl ?_)
      · exact absurd c13 (nI_ge (by omega) (by omega))
      · refine e_aload_n dX0_sumOf_16 rfl (pn 17 rfl ?_)
        refine e_iload dX0_sumOf_17 rfl (pn 19 rfl ?_)
        refine c_V1 dX0_sumOf_19 ml_X0_80 mv_X4_letter (by decide) (w_letter ok hx (show i < 32 by omega)) hx rfl rfl (Nat.le_of_ble_eq_true rfl) (pn 22 rfl ?_)
        refine s_i [_, _, _, _, _, _] dX0_sumOf_22 (Nat.le_of_ble_eq_true rfl) rfl (pn 24 rfl ?_)
        refine e_aload_n dX0_sumOf_24 rfl (pn 25 rfl ?_)
        refine e_iload_n dX0_sumOf_25 rfl (pn 26 rfl ?_)
        refine e_iload dX0_sumOf_26 rfl (pn 28 rfl ?_)
        refine e_ic (1) dX0_sumOf_28 (by decide) (pn 29 rfl ?_)
        refine e_iadd dX0_sumOf_29 (pn 30 rfl ?_)
        refine e_iload_n dX0_sumOf_30 rfl (pn 31 rfl ?_)
        refine e_iload dX0_sumOf_31 rfl (pn 33 rfl ?_)
        rw [nI_1]
        refine c_V1 dX0_sumOf_33 ml_X0_73 mv_X0_sumWith (by decide) (d_sumWith h hq hm hs (p := i + 1) (by omega) (by omega) hla hl4) h rfl rfl (Nat.le_of_ble_eq_true rfl) (pn 36 rfl ?_)
        refine s_in [_, _, _, _, _, _] dX0_sumOf_36 (Nat.le_of_ble_eq_true rfl) rfl (pn 37 rfl ?_)
        refine e_iload dX0_sumOf_37 rfl (pn 39 rfl ?_)
        refine s_in [_, _, _, _, _, _] dX0_sumOf_39 (Nat.le_of_ble_eq_true rfl) rfl (pn 40 rfl ?_)
        refine s_inc [_, _, _, _, _, _] (1) dX0_sumOf_40 (by decide) rfl (Nat.le_of_ble_eq_true rfl) rfl (pn 43 rfl ?_)
        refine e_goto 7 dX0_sumOf_43 (by decide) ?_
        rw [nI_1]
        exact e_dr [_, _, _, _, _, _] 5 rfl (ih (i + 1) _ _ (by omega) (swN_lt (by omega) hs) hl4)
  refine cw_of (M := mX0_sumOf) fx_X0_sumOf (lv := [.ref 15, .ref x, dmy, dmy, dmy, dmy]) rfl (Nat.le_of_ble_eq_true rfl) ?_
  refine e_ic (0) dX0_sumOf_0 (by decide) (pn 1 rfl ?_)
  refine s_in [_, _, _, _, _, _] dX0_sumOf_1 (Nat.le_of_ble_eq_true rfl) rfl (pn 2 rfl ?_)
  refine e_ic (0) dX0_sumOf_2 (by decide) (pn 3 rfl ?_)
  refine s_in [_, _, _, _, _, _] dX0_sumOf_3 (Nat.le_of_ble_eq_true rfl) rfl (pn 4 rfl ?_)
  refine e_ic (0) dX0_sumOf_4 (by decide) (pn 5 rfl ?_)
  refine s_i [_, _, _, _, _, _] dX0_sumOf_5 (Nat.le_of_ble_eq_true rfl) rfl (pn 7 rfl ?_)
  exact loop u.length 0 0 0 (by omega) (by omega) (by omega)
theorem soF_lt {q m : Nat} {u : List Nat} (hm : 0 < m) : ∀ (k i s last : Nat), s < m → soF q m u k i s last < m
  | 0, _, s, _, hs => hs
  | k + 1, i, s, last, hs => soF_lt hm k (i + 1) _ _ (swN_lt hm hs)
def lsN (u : List Nat) : Nat → Nat
  | 0 => 0
  | k + 1 => lsN u k + u.getD k 0
theorem lsN_le {u : List Nat} (ok : okL u) : ∀ k, lsN u k ≤ 4 * k
  | 0 => Nat.le_refl _
  | k + 1 => by
    have := lsN_le ok k
    have := okL_get ok k
    rw [lsN]; omega
abbrev hoB (q n m a b lm : Nat) (u : List Nat) : Prop := u.length = n ∧ soV q m u = a ∧ lsN u n % lm = b
theorem d_holds {w : Wd} {wr q n m a b lm x : Nat} {sz : Int32} (h : w[15]? = some (cdF wr q n m a b lm sz)) (hP : cP q n m a b lm) {u : List Nat} (hx : w[x]? = some (rowW u)) (ok : okW u) : CW mX0_holds [.ref 15, .ref x] w (some (.int (if hoB q n m a b lm u then 1 else 0))) w := by
  obtain ⟨hq, hn, hm, ha, hb, hlm⟩ := hP
  have b1 := ok.1
  have loop : u.length = n → soV q m u = a → ∀ (k i : Nat), i + k = n → EW mX0_holds none 29 [.ref 15, .ref x, .int (nI (lsN u i)), .int (nI i)] [] w (some (.int (if hoB q n m a b lm u then 1 else 0))) w := by
    intro e1 e2 k
    induction k with
    | zero =>
      intro i hi
      have e3 : i = n := by omega
      subst e3
      have hls := lsN_le ok.2 i
      refine e_iload_n dX0_holds_29 rfl (pn 30 rfl ?_)
      refine e_aload_n dX0_holds_30 rfl (pn 31 rfl ?_)
      refine e_get dX0_holds_31 fl_X0_35 h rfl (pn 34 rfl ?_)
      refine e_icmp_ge 51 dX0_holds_34 (by decide) (fun c34 => ?_) (fun c34 => pn 37 rfl ?_)
      · refine e_iload_n dX0_holds_51 rfl (pn 52 rfl ?_)
        refine e_aload_n dX0_holds_52 rfl (pn 53 rfl ?_)
        refine e_get dX0_holds_53 fl_X0_32 h rfl (pn 56 rfl ?_)
        refine e_irem dX0_holds_56 (nI_ne0 (by omega) (by omega)) (pn 57 rfl ?_)
        rw [pk_rem (by omega) (by omega) (by omega)]
        refine e_aload_n dX0_holds_57 rfl (pn 58 rfl ?_)
        refine e_get dX0_holds_58 fl_X0_41 h rfl (pn 61 rfl ?_)
        refine e_icmp_ne 68 dX0_holds_61 (by decide) (fun c61 => ?_) (fun c61 => pn 64 rfl ?_)
        · have hc : ¬ lsN u i % lm = b := fun e => c61 (by rw [e])
          refine e_ic (0) dX0_holds_68 (by decide) (pn 69 rfl ?_)
          exact e_zret dX0_holds_69 rfl (by decide) (by rw [if_neg (fun e => hc e.2.2)]) rfl
        · have hc : lsN u i % lm = b := (nI_eq (by have := Nat.mod_lt (lsN u i) (show 0 < lm by omega); omega) (by omega)).mp c61
          refine e_ic (1) dX0_holds_64 (by decide) (pn 65 rfl ?_)
          refine e_goto 69 dX0_holds_65 (by decide) ?_
          exact e_zret dX0_holds_69 rfl (by decide) (by rw [if_pos ⟨e1, e2, hc⟩]) rfl
      · exact absurd (nI_le (Nat.le_refl _) (by omega)) c34
    | succ k ih =>
      intro i hi
      refine e_iload_n dX0_holds_29 rfl (pn 30 rfl ?_)
      refine e_aload_n dX0_holds_30 rfl (pn 31 rfl ?_)
      refine e_get dX0_holds_31 fl_X0_35 h rfl (pn 34 rfl ?_)
      refine e_icmp_ge 51 dX0_holds_34 (by decide) (fun c34 => ?_) (fun c34 => pn 37 rfl ?_)
      · exact absurd c34 (nI_ge (by omega) (by omega))
      · refine e_iload_n dX0_holds_37 rfl (pn 38 rfl ?_)
        refine e_aload_n dX0_holds_38 rfl (pn 39 rfl ?_)
        refine e_iload_n dX0_holds_39 rfl (pn 40 rfl ?_)
        refine c_V1 dX0_holds_40 ml_X0_80 mv_X4_letter (by decide) (w_letter ok hx (show i < 32 by omega)) hx rfl rfl (Nat.le_of_ble_eq_true rfl) (pn 43 rfl ?_)
        refine e_iadd dX0_holds_43 (pn 44 rfl ?_)
        refine s_in [_, _, _, _] dX0_holds_44 (Nat.le_of_ble_eq_true rfl) rfl (pn 45 rfl ?_)
        refine s_inc [_, _, _, _] (1) dX0_holds_45 (by decide) rfl (Nat.le_of_ble_eq_true rfl) rfl (pn 48 rfl ?_)
        refine e_goto 29 dX0_holds_48 (by decide) ?_
        rw [nI_1, nI_add]
        exact ih (i + 1) (by omega)
  refine cw_of (M := mX0_holds) fx_X0_holds (lv := [.ref 15, .ref x, dmy, dmy]) rfl (Nat.le_of_ble_eq_true rfl) ?_
  refine e_aload_n dX0_holds_0 rfl (pn 1 rfl ?_)
  refine e_get dX0_holds_1 fl_X0_79 hx rfl (pn 4 rfl ?_)
  refine e_aload_n dX0_holds_4 rfl (pn 5 rfl ?_)
  refine e_get dX0_holds_5 fl_X0_35 h rfl (pn 8 rfl ?_)
  refine e_icmp_ne 23 dX0_holds_8 (by decide) (fun c8 => ?_) (fun c8 => pn 11 rfl ?_)
  · have hc : ¬ u.length = n := fun e => c8 (by rw [e])
    refine e_ic (0) dX0_holds_23 (by decide) (pn 24 rfl ?_)
    exact e_zret dX0_holds_24 rfl (by decide) (by rw [if_neg (fun e => hc e.1)]) rfl
  · have hc : u.length = n := (nI_eq (by omega) (by omega)).mp c8
    have hso : soV q m u < m := soF_lt (by omega) _ _ _ _ (by omega)
    refine e_aload_n dX0_holds_11 rfl (pn 12 rfl ?_)
    refine e_aload_n dX0_holds_12 rfl (pn 13 rfl ?_)
    refine c_V1 dX0_holds_13 ml_X0_84 mv_X0_sumOf (by decide) (d_sumOf h hq.2 hm hx ok) h rfl rfl (Nat.le_of_ble_eq_true rfl) (pn 16 rfl ?_)
    refine e_aload_n dX0_holds_16 rfl (pn 17 rfl ?_)
    refine e_get dX0_holds_17 fl_X0_38 h rfl (pn 20 rfl ?_)
    refine e_icmp_eq 25 dX0_holds_20 (by decide) (fun c20 => ?_) (fun c20 => pn 23 rfl ?_)
    · have hc2 : soV q m u = a := (nI_eq (by omega) (by omega)).mp c20
      refine e_ic (0) dX0_holds_25 (by decide) (pn 26 rfl ?_)
      refine s_in [_, _, _, _] dX0_holds_26 (Nat.le_of_ble_eq_true rfl) rfl (pn 27 rfl ?_)
      refine e_ic (0) dX0_holds_27 (by decide) (pn 28 rfl ?_)
      refine s_in [_, _, _, _] dX0_holds_28 (Nat.le_of_ble_eq_true rfl) rfl (pn 29 rfl ?_)
      exact loop hc hc2 n 0 (by omega)
    · have hc2 : ¬ soV q m u = a := fun e => c20 (by rw [e])
      refine e_ic (0) dX0_holds_23 (by decide) (pn 24 rfl ?_)
      exact e_zret dX0_holds_24 rfl (by decide) (by rw [if_neg (fun e => hc2 e.2.1)]) rfl
/-! neighbours -/
theorem d_take1 {w : Wd} {wr q n m a b lm : Nat} {sz : Int32} (h : w[15]? = some (cdF wr q n m a b lm sz)) (hP : cP q n m a b lm) {v fo : List Nat} (h16 : w[16]? = some (rowW v)) (h17 : w[17]? = some (rowW fo)) (ok : okW v) (hh : hoB q n m a b lm v) : CW mX0_take [.ref 15] w (some (.int 1)) (w.set 17 (rowW v)) := by
  have H := d_holds h hP h16 ok
  rw [if_pos hh] at H
  refine cw_of (M := mX0_take) fx_X0_take (lv := [.ref 15]) rfl (Nat.le_of_ble_eq_true rfl) ?_
  refine e_aload_n dX0_take_0 rfl (pn 1 rfl ?_)
  refine e_aload_n dX0_take_1 rfl (pn 2 rfl ?_)
  refine e_get dX0_take_2 fl_X0_12 h rfl (pn 5 rfl ?_)
  refine c_V1 dX0_take_5 ml_X0_121 mv_X0_holds (by decide) H h rfl rfl (Nat.le_of_ble_eq_true rfl) (pn 8 rfl ?_)
  refine e_if_ne 13 dX0_take_8 (by decide) (fun c8 => ?_) (fun c8 => pn 11 rfl ?_)
  · refine e_aload_n dX0_take_13 rfl (pn 14 rfl ?_)
    refine e_get dX0_take_14 fl_X0_18 h rfl (pn 17 rfl ?_)
    refine e_aload_n dX0_take_17 rfl (pn 18 rfl ?_)
    refine e_get dX0_take_18 fl_X0_12 h rfl (pn 21 rfl ?_)
    refine c_V0 dX0_take_21 ml_X0_104 mv_X4_become (by decide) (r_become h17 h16) h17 rfl rfl (Nat.le_of_ble_eq_true rfl) (pn 24 rfl ?_)
    refine e_ic (1) dX0_take_24 (by decide) (pn 25 rfl ?_)
    exact e_iret dX0_take_25 rfl rfl rfl
  · exact absurd c8 (by decide)
theorem d_take0 {w : Wd} {wr q n m a b lm : Nat} {sz : Int32} (h : w[15]? = some (cdF wr q n m a b lm sz)) (hP : cP q n m a b lm) {v : List Nat} (h16 : w[16]? = some (rowW v)) (ok : okW v) (hh : ¬ hoB q n m a b lm v) : CW mX0_take [.ref 15] w (some (.int 0)) w := by
  have H := d_holds h hP h16 ok
  rw [if_neg hh] at H
  refine cw_of (M := mX0_take) fx_X0_take (lv := [.ref 15]) rfl (Nat.le_of_ble_eq_true rfl) ?_
  refine e_aload_n dX0_take_0 rfl (pn 1 rfl ?_)
  refine e_aload_n dX0_take_1 rfl (pn 2 rfl ?_)
  refine e_get dX0_take_2 fl_X0_12 h rfl (pn 5 rfl ?_)
  refine c_V1 dX0_take_5 ml_X0_121 mv_X0_holds (by decide) H h rfl rfl (Nat.le_of_ble_eq_true rfl) (pn 8 rfl ?_)
  refine e_if_ne 13 dX0_take_8 (by decide) (fun c8 => ?_) (fun c8 => pn 11 rfl ?_)
  · exact absurd rfl c8
  · refine e_ic (0) dX0_take_11 (by decide) (pn 12 rfl ?_)
    exact e_iret dX0_take_12 rfl rfl rfl
abbrev NS : Type := Nat × List Nat × List Nat
def stN (q n m a b lm : Nat) (v : List Nat) (st : NS) : NS := if hoB q n m a b lm v then (st.1 + 1, v, v) else (st.1, v, st.2.2)
abbrev wN (w : Wd) (st : NS) : Wd := (w.set 16 (rowW st.2.1)).set 17 (rowW st.2.2)
theorem wN16 (w : Wd) (st : NS) (z : List Nat) : (wN w st).set 16 (rowW z) = wN w (st.1, z, st.2.2) := by
  show ((w.set 16 (rowW st.2.1)).set 17 (rowW st.2.2)).set 16 (rowW z) = _
  rw [List.set_comm _ _ (by decide), List.set_set]
theorem wN17 (w : Wd) (st : NS) (z : List Nat) : (wN w st).set 17 (rowW z) = wN w (st.1, st.2.1, z) := by
  show ((w.set 16 (rowW st.2.1)).set 17 (rowW st.2.2)).set 17 (rowW z) = _
  rw [List.set_set]
/-- the heap of the neighbours' search -/
def nH (w : Wd) (wr q n m a b lm : Nat) (sz : Int32) (x : Nat) (u : List Nat) : Prop := w[15]? = some (cdF wr q n m a b lm sz) ∧ cP q n m a b lm ∧ w[x]? = some (rowW u) ∧ okW u ∧ x ≠ 16 ∧ x ≠ 17 ∧ (∃ v, w[16]? = some (rowW v)) ∧ ∃ v, w[17]? = some (rowW v)
theorem nH.up {w : Wd} {wr q n m a b lm x : Nat} {sz : Int32} {u : List Nat} (h : nH w wr q n m a b lm sz x u) (st : NS) : nH (wN w st) wr q n m a b lm sz x u ∧ (wN w st)[16]? = some (rowW st.2.1) ∧ (wN w st)[17]? = some (rowW st.2.2) := by
  obtain ⟨h1, h2, h3, h4, h5, h6, ⟨v, h7⟩, ⟨z, h8⟩⟩ := h
  have e16 : (wN w st)[16]? = some (rowW st.2.1) := gne (by decide) (gse h7)
  have e17 : (wN w st)[17]? = some (rowW st.2.2) := gse (e0 := rowW z) (gne (by decide) h8)
  exact ⟨⟨gne (by decide) (gne (by decide) h1), h2, gne (Ne.symm h6) (gne (Ne.symm h5) h3), h4, h5, h6, ⟨_, e16⟩, ⟨_, e17⟩⟩, e16, e17⟩
/-- from a world in which tried holds v: take, and what comes behind it -/
theorem d_take {M : Mt} {sc : Option (Nat × (Nat → Int32))} {pc idx : Nat} {lv : List Value} {r : Option Value} {w' : Wd} {w : Wd} {wr q n m a b lm x : Nat} {sz : Int32} {u : List Nat} (h : nH w wr q n m a b lm sz x u) (st : NS) (v : List Nat) (okv : okW v) (hd : decode M.2.2.1 pc = .ok (.invokevirtual idx, 3)) (hl : mLk M.1 idx yX0_take) (hdp : mX0_take.2.2.2.2.2 + 1 ≤ M.2.2.2.2.2)
    (K : ∀ y : Int32, nI st.1 + y = nI (stN q n m a b lm v st).1 → EW M sc (pc + 3) lv (.int y :: [.int (nI st.1)]) (wN w (stN q n m a b lm v st)) r w') : EW M sc pc lv [.ref 15, .int (nI st.1)] (wN w (st.1, v, st.2.2)) r w' := by
  obtain ⟨g, g16, g17⟩ := h.up (st.1, v, st.2.2)
  by_cases hh : hoB q n m a b lm v
  · have T := d_take1 g.1 g.2.1 g16 g17 okv hh
    rw [wN17] at T
    refine c_V1 hd hl mv_X0_take hdp T g.1 rfl rfl (Nat.le_of_ble_eq_true rfl) ?_
    have := K 1 (by rw [stN, if_pos hh, nI_1])
    rw [stN, if_pos hh] at this
    exact this
  · have T := d_take0 g.1 g.2.1 g16 okv hh
    refine c_V1 hd hl mv_X0_take hdp T g.1 rfl rfl (Nat.le_of_ble_eq_true rfl) ?_
    have := K 0 (by rw [stN, if_neg hh]; exact nI_add st.1 0)
    rw [stN, if_neg hh] at this
    exact this
theorem okW_set {u : List Nat} (h : okW u) (i : Nat) {l : Nat} (hl : l < 4) : okW (u.set i l) := ⟨by rw [List.length_set]; exact h.1, fun a ha => by
  rcases List.mem_or_eq_of_mem_set ha with h9 | h9
  · exact h.2 a h9
  · omega⟩
theorem okW_erase {u : List Nat} (h : okW u) (i : Nat) : okW (u.eraseIdx i) := ⟨Nat.le_trans (List.length_eraseIdx_le u i) h.1, fun a ha => h.2 a (List.mem_of_mem_eraseIdx ha)⟩
theorem okW_ins {u : List Nat} (h : okW u) (h24 : u.length < 24) {i l : Nat} (hi : i ≤ u.length) (hl : l < 4) : okW (u.insertIdx i l) := ⟨by rw [List.length_insertIdx_of_le_length hi]; omega, fun a ha => by
  rcases (List.mem_insertIdx hi).mp ha with h9 | h9
  · omega
  · exact h.2 a h9⟩
def ntI (q n m a b lm : Nat) (u : List Nat) (i : Nat) : Nat → Nat → NS → NS
  | 0, _, st => st
  | k + 1, l, st => ntI q n m a b lm u i k (l + 1) (if l = u.getD i 0 then st else stN q n m a b lm (u.set i l) st)
def ntO (q n m a b lm : Nat) (u : List Nat) : Nat → Nat → NS → NS
  | 0, _, st => st
  | k + 1, i, st => ntO q n m a b lm u k (i + 1) (ntI q n m a b lm u i q 0 st)
theorem d_turn_in {w : Wd} {wr q n m a b lm x : Nat} {sz : Int32} {u : List Nat} (h : nH w wr q n m a b lm sz x u) {r : Option Value} {w' : Wd} (i : Nat) (hi : i < u.length) : ∀ (k l : Nat) (st : NS), l + k = q → EW mX0_neighboursByTurn none 65 [.ref 15, .ref x, .int (nI (ntI q n m a b lm u i k l st).1), .int (nI i), dmy] [] (wN w (ntI q n m a b lm u i k l st)) r w' → EW mX0_neighboursByTurn none 15 [.ref 15, .ref x, .int (nI st.1), .int (nI i), .int (nI l)] [] (wN w st) r w' := by
  have hq := h.2.1.1
  have ok := h.2.2.2.1
  have b1 := ok.1
  have hu4 := okL_get ok.2 i
  intro k
  induction k with
  | zero =>
    intro l st hl K
    refine e_iload dX0_neighboursByTurn_15 rfl (pn 17 rfl ?_)
    refine e_aload_n dX0_neighboursByTurn_17 rfl (pn 18 rfl ?_)
    refine e_get dX0_neighboursByTurn_18 fl_X0_25 (h.up st).1.1 rfl (pn 21 rfl ?_)
    refine e_icmp_ge 65 dX0_neighboursByTurn_21 (by decide) (fun c21 => ?_) (fun c21 => pn 24 rfl ?_)
    · exact e_dr [_, _, _, _, _] 4 rfl K
    · exact absurd (nI_le (by omega) (by omega)) c21
  | succ k ih =>
    intro l st hl K
    obtain ⟨g, g16, g17⟩ := h.up st
    rw [ntI] at K
    refine e_iload dX0_neighboursByTurn_15 rfl (pn 17 rfl ?_)
    refine e_aload_n dX0_neighboursByTurn_17 rfl (pn 18 rfl ?_)
    refine e_get dX0_neighboursByTurn_18 fl_X0_25 g.1 rfl (pn 21 rfl ?_)
    refine e_icmp_ge 65 dX0_neighboursByTurn_21 (by decide) (fun c21 => ?_) (fun c21 => pn 24 rfl ?_)
    · exact absurd c21 (nI_ge (by omega) (by omega))
    · refine e_iload dX0_neighboursByTurn_24 rfl (pn 26 rfl ?_)
      refine e_aload_n dX0_neighboursByTurn_26 rfl (pn 27 rfl ?_)
      refine e_iload_n dX0_neighboursByTurn_27 rfl (pn 28 rfl ?_)
      refine c_V1 dX0_neighboursByTurn_28 ml_X0_80 mv_X4_letter (by decide) (w_letter ok g.2.2.1 (show i < 32 by omega)) g.2.2.1 rfl rfl (Nat.le_of_ble_eq_true rfl) (pn 31 rfl ?_)
      refine e_icmp_eq 59 dX0_neighboursByTurn_31 (by decide) (fun c31 => ?_) (fun c31 => pn 34 rfl ?_)
      · have hc : l = u.getD i 0 := (nI_eq (by omega) (by omega)).mp c31
        rw [if_pos hc] at K
        refine s_inc [_, _, _, _, _] (1) dX0_neighboursByTurn_59 (by decide) rfl (Nat.le_of_ble_eq_true rfl) rfl (pn 62 rfl ?_)
        refine e_goto 15 dX0_neighboursByTurn_62 (by decide) ?_
        rw [nI_1]
        exact ih (l + 1) st (by omega) K
      · have hc : ¬ l = u.getD i 0 := fun e => c31 (by rw [e])
        rw [if_neg hc] at K
        refine e_aload_n dX0_neighboursByTurn_34 rfl (pn 35 rfl ?_)
        refine e_get dX0_neighboursByTurn_35 fl_X0_12 g.1 rfl (pn 38 rfl ?_)
        refine e_aload_n dX0_neighboursByTurn_38 rfl (pn 39 rfl ?_)
        refine c_V0 dX0_neighboursByTurn_39 ml_X0_104 mv_X4_become (by decide) (r_become g16 g.2.2.1) g16 rfl rfl (Nat.le_of_ble_eq_true rfl) (pn 42 rfl ?_)
        rw [wN16]
        obtain ⟨g2, g216, g217⟩ := h.up (st.1, u, st.2.2)
        refine e_aload_n dX0_neighboursByTurn_42 rfl (pn 43 rfl ?_)
        refine e_get dX0_neighboursByTurn_43 fl_X0_12 g2.1 rfl (pn 46 rfl ?_)
        refine e_iload_n dX0_neighboursByTurn_46 rfl (pn 47 rfl ?_)
        refine e_iload dX0_neighboursByTurn_47 rfl (pn 49 rfl ?_)
        refine c_V0 dX0_neighboursByTurn_49 ml_X0_108 mv_X4_turn (by decide) (w_turn ok g216 hi (show l < 4 by omega)) g216 rfl rfl (Nat.le_of_ble_eq_true rfl) (pn 52 rfl ?_)
        rw [wN16]
        refine e_iload_n dX0_neighboursByTurn_52 rfl (pn 53 rfl ?_)
        refine e_aload_n dX0_neighboursByTurn_53 rfl (pn 54 rfl ?_)
        refine d_take h st (u.set i l) (okW_set ok i (by omega)) dX0_neighboursByTurn_54 ml_X0_111 (by decide) (fun y hy => pn 57 rfl ?_)
        refine e_iadd dX0_neighboursByTurn_57 (pn 58 rfl ?_)
        refine s_in [_, _, _, _, _] dX0_neighboursByTurn_58 (Nat.le_of_ble_eq_true rfl) rfl (pn 59 rfl ?_)
        refine s_inc [_, _, _, _, _] (1) dX0_neighboursByTurn_59 (by decide) rfl (Nat.le_of_ble_eq_true rfl) rfl (pn 62 rfl ?_)
        refine e_goto 15 dX0_neighboursByTurn_62 (by decide) ?_
        rw [hy, nI_1]
        exact ih (l + 1) _ (by omega) K
theorem d_turn {w : Wd} {wr q n m a b lm x : Nat} {sz : Int32} {u : List Nat} (h : nH w wr q n m a b lm sz x u) {v z : List Nat} (h16 : w[16]? = some (rowW v)) (h17 : w[17]? = some (rowW z)) : CW mX0_neighboursByTurn [.ref 15, .ref x] w (some (.int (nI (ntO q n m a b lm u u.length 0 (0, v, z)).1))) (wN w (ntO q n m a b lm u u.length 0 (0, v, z))) := by
  have ok := h.2.2.2.1
  have b1 := ok.1
  have outer : ∀ {r : Option Value} {w' : Wd} (k i : Nat) (st : NS), i + k = u.length → EW mX0_neighboursByTurn none 71 [.ref 15, .ref x, .int (nI (ntO q n m a b lm u k i st).1), dmy, dmy] [] (wN w (ntO q n m a b lm u k i st)) r w' → EW mX0_neighboursByTurn none 4 [.ref 15, .ref x, .int (nI st.1), .int (nI i), dmy] [] (wN w st) r w' := by
    intro r w' k
    induction k with
    | zero =>
      intro i st hi K
      refine e_iload_n dX0_neighboursByTurn_4 rfl (pn 5 rfl ?_)
      refine e_aload_n dX0_neighboursByTurn_5 rfl (pn 6 rfl ?_)
      refine e_get dX0_neighboursByTurn_6 fl_X0_79 (h.up st).1.2.2.1 rfl (pn 9 rfl ?_)
      refine e_icmp_ge 71 dX0_neighboursByTurn_9 (by decide) (fun c9 => ?_) (fun c9 => pn 12 rfl ?_)
      · exact e_dr [_, _, _, _, _] 3 rfl K
      · exact absurd (nI_le (by omega) (by omega)) c9
    | succ k ih =>
      intro i st hi K
      refine e_iload_n dX0_neighboursByTurn_4 rfl (pn 5 rfl ?_)
      refine e_aload_n dX0_neighboursByTurn_5 rfl (pn 6 rfl ?_)
      refine e_get dX0_neighboursByTurn_6 fl_X0_79 (h.up st).1.2.2.1 rfl (pn 9 rfl ?_)
      refine e_icmp_ge 71 dX0_neighboursByTurn_9 (by decide) (fun c9 => ?_) (fun c9 => pn 12 rfl ?_)
      · exact absurd c9 (nI_ge (by omega) (by omega))
      · refine e_ic (0) dX0_neighboursByTurn_12 (by decide) (pn 13 rfl ?_)
        refine s_i [_, _, _, _, _] dX0_neighboursByTurn_13 (Nat.le_of_ble_eq_true rfl) rfl (pn 15 rfl ?_)
        refine d_turn_in h i (by omega) q 0 st (by omega) ?_
        refine s_inc [_, _, _, _, _] (1) dX0_neighboursByTurn_65 (by decide) rfl (Nat.le_of_ble_eq_true rfl) rfl (pn 68 rfl ?_)
        refine e_goto 4 dX0_neighboursByTurn_68 (by decide) ?_
        rw [nI_1]
        exact ih (i + 1) _ (by omega) K
  refine cw_of (M := mX0_neighboursByTurn) fx_X0_neighboursByTurn (lv := [.ref 15, .ref x, dmy, dmy, dmy]) rfl (Nat.le_of_ble_eq_true rfl) ?_
  refine e_ic (0) dX0_neighboursByTurn_0 (by decide) (pn 1 rfl ?_)
  refine s_in [_, _, _, _, _] dX0_neighboursByTurn_1 (Nat.le_of_ble_eq_true rfl) rfl (pn 2 rfl ?_)
  refine e_ic (0) dX0_neighboursByTurn_2 (by decide) (pn 3 rfl ?_)
  refine s_in [_, _, _, _, _] dX0_neighboursByTurn_3 (Nat.le_of_ble_eq_true rfl) rfl (pn 4 rfl ?_)
  refine pw (w1 := wN w (0, v, z)) (by show w = (w.set 16 (rowW v)).set 17 (rowW z); rw [set_id h16, set_id h17]) ?_
  refine outer u.length 0 (0, v, z) (by omega) ?_
  refine e_iload_n dX0_neighboursByTurn_71 rfl (pn 72 rfl ?_)
  exact e_iret dX0_neighboursByTurn_72 rfl rfl rfl
abbrev ngC (u : List Nat) (i : Nat) : Prop := i = 0 ∨ ¬ u.getD i 0 = u.getD (i - 1) 0
def ngO (q n m a b lm : Nat) (u : List Nat) : Nat → Nat → NS → NS
  | 0, _, st => st
  | k + 1, i, st => ngO q n m a b lm u k (i + 1) (if ngC u i then stN q n m a b lm (u.eraseIdx i) st else st)
theorem d_gain_step {w : Wd} {wr q n m a b lm x : Nat} {sz : Int32} {u : List Nat} (h : nH w wr q n m a b lm sz x u) {r : Option Value} {w' : Wd} {i : Nat} (hi : i < u.length) (st : NS) (K : EW mX0_neighboursByGain none 4 [.ref 15, .ref x, .int (nI (stN q n m a b lm (u.eraseIdx i) st).1), .int (nI (i + 1))] [] (wN w (stN q n m a b lm (u.eraseIdx i) st)) r w') : EW mX0_neighboursByGain none 31 [.ref 15, .ref x, .int (nI st.1), .int (nI i)] [] (wN w st) r w' := by
  have ok := h.2.2.2.1
  obtain ⟨g, g16, g17⟩ := h.up st
  refine e_aload_n dX0_neighboursByGain_31 rfl (pn 32 rfl ?_)
  refine e_get dX0_neighboursByGain_32 fl_X0_12 g.1 rfl (pn 35 rfl ?_)
  refine e_aload_n dX0_neighboursByGain_35 rfl (pn 36 rfl ?_)
  refine c_V0 dX0_neighboursByGain_36 ml_X0_104 mv_X4_become (by decide) (r_become g16 g.2.2.1) g16 rfl rfl (Nat.le_of_ble_eq_true rfl) (pn 39 rfl ?_)
  rw [wN16]
  obtain ⟨g2, g216, g217⟩ := h.up (st.1, u, st.2.2)
  refine e_aload_n dX0_neighboursByGain_39 rfl (pn 40 rfl ?_)
  refine e_get dX0_neighboursByGain_40 fl_X0_12 g2.1 rfl (pn 43 rfl ?_)
  refine e_iload_n dX0_neighboursByGain_43 rfl (pn 44 rfl ?_)
  refine c_V0 dX0_neighboursByGain_44 ml_X0_115 mv_X4_lose (by decide) (w_lose ok g216 hi) g216 rfl rfl (Nat.le_of_ble_eq_true rfl) (pn 47 rfl ?_)
  rw [wN16]
  refine e_iload_n dX0_neighboursByGain_47 rfl (pn 48 rfl ?_)
  refine e_aload_n dX0_neighboursByGain_48 rfl (pn 49 rfl ?_)
  refine d_take h st (u.eraseIdx i) (okW_erase ok i) dX0_neighboursByGain_49 ml_X0_111 (by decide) (fun y hy => pn 52 rfl ?_)
  refine e_iadd dX0_neighboursByGain_52 (pn 53 rfl ?_)
  refine s_in [_, _, _, _] dX0_neighboursByGain_53 (Nat.le_of_ble_eq_true rfl) rfl (pn 54 rfl ?_)
  refine s_inc [_, _, _, _] (1) dX0_neighboursByGain_54 (by decide) rfl (Nat.le_of_ble_eq_true rfl) rfl (pn 57 rfl ?_)
  refine e_goto 4 dX0_neighboursByGain_57 (by decide) ?_
  rw [hy, nI_1]
  exact K
theorem d_gain {w : Wd} {wr q n m a b lm x : Nat} {sz : Int32} {u : List Nat} (h : nH w wr q n m a b lm sz x u) {v z : List Nat} (h16 : w[16]? = some (rowW v)) (h17 : w[17]? = some (rowW z)) : CW mX0_neighboursByGain [.ref 15, .ref x] w (some (.int (nI (ngO q n m a b lm u u.length 0 (0, v, z)).1))) (wN w (ngO q n m a b lm u u.length 0 (0, v, z))) := by
  have ok := h.2.2.2.1
  have b1 := ok.1
  have outer : ∀ {r : Option Value} {w' : Wd} (k i : Nat) (st : NS), i + k = u.length → EW mX0_neighboursByGain none 60 [.ref 15, .ref x, .int (nI (ngO q n m a b lm u k i st).1), dmy] [] (wN w (ngO q n m a b lm u k i st)) r w' → EW mX0_neighboursByGain none 4 [.ref 15, .ref x, .int (nI st.1), .int (nI i)] [] (wN w st) r w' := by
    intro r w' k
    induction k with
    | zero =>
      intro i st hi K
      refine e_iload_n dX0_neighboursByGain_4 rfl (pn 5 rfl ?_)
      refine e_aload_n dX0_neighboursByGain_5 rfl (pn 6 rfl ?_)
      refine e_get dX0_neighboursByGain_6 fl_X0_79 (h.up st).1.2.2.1 rfl (pn 9 rfl ?_)
      refine e_icmp_ge 60 dX0_neighboursByGain_9 (by decide) (fun c9 => ?_) (fun c9 => pn 12 rfl ?_)
      · exact e_dr [_, _, _, _] 3 rfl K
      · exact absurd (nI_le (by omega) (by omega)) c9
    | succ k ih =>
      intro i st hi K
      have g := (h.up st).1
      have u1 := okL_get ok.2 i
      have u2 := okL_get ok.2 (i - 1)
      rw [ngO] at K
      refine e_iload_n dX0_neighboursByGain_4 rfl (pn 5 rfl ?_)
      refine e_aload_n dX0_neighboursByGain_5 rfl (pn 6 rfl ?_)
      refine e_get dX0_neighboursByGain_6 fl_X0_79 g.2.2.1 rfl (pn 9 rfl ?_)
      refine e_icmp_ge 60 dX0_neighboursByGain_9 (by decide) (fun c9 => ?_) (fun c9 => pn 12 rfl ?_)
      · exact absurd c9 (nI_ge (by omega) (by omega))
      · refine e_iload_n dX0_neighboursByGain_12 rfl (pn 13 rfl ?_)
        refine e_if_eq 31 dX0_neighboursByGain_13 (by decide) (fun c13 => ?_) (fun c13 => pn 16 rfl ?_)
        · have hc : i = 0 := (nI_eq (b := 0) (by omega) (by omega)).mp c13
          rw [if_pos (Or.inl hc)] at K
          exact d_gain_step h (by omega) st (ih (i + 1) _ (by omega) K)
        · have hc : ¬ i = 0 := fun e => c13 (by rw [e]; rfl)
          refine e_aload_n dX0_neighboursByGain_16 rfl (pn 17 rfl ?_)
          refine e_iload_n dX0_neighboursByGain_17 rfl (pn 18 rfl ?_)
          refine c_V1 dX0_neighboursByGain_18 ml_X0_80 mv_X4_letter (by decide) (w_letter ok g.2.2.1 (show i < 32 by omega)) g.2.2.1 rfl rfl (Nat.le_of_ble_eq_true rfl) (pn 21 rfl ?_)
          refine e_aload_n dX0_neighboursByGain_21 rfl (pn 22 rfl ?_)
          refine e_iload_n dX0_neighboursByGain_22 rfl (pn 23 rfl ?_)
          refine e_ic (1) dX0_neighboursByGain_23 (by decide) (pn 24 rfl ?_)
          refine e_isub dX0_neighboursByGain_24 (pn 25 rfl ?_)
          rw [show nI i - 1 = nI (i - 1) from pk_sub (b := 1) (by omega)]
          refine c_V1 dX0_neighboursByGain_25 ml_X0_80 mv_X4_letter (by decide) (w_letter ok g.2.2.1 (show i - 1 < 32 by omega)) g.2.2.1 rfl rfl (Nat.le_of_ble_eq_true rfl) (pn 28 rfl ?_)
          refine e_icmp_eq 54 dX0_neighboursByGain_28 (by decide) (fun c28 => ?_) (fun c28 => pn 31 rfl ?_)
          · have hc2 : u.getD i 0 = u.getD (i - 1) 0 := (nI_eq (by omega) (by omega)).mp c28
            rw [if_neg (fun e => e.elim hc (fun e => e hc2))] at K
            refine s_inc [_, _, _, _] (1) dX0_neighboursByGain_54 (by decide) rfl (Nat.le_of_ble_eq_true rfl) rfl (pn 57 rfl ?_)
            refine e_goto 4 dX0_neighboursByGain_57 (by decide) ?_
            rw [nI_1]
            exact ih (i + 1) _ (by omega) K
          · have hc2 : ¬ u.getD i 0 = u.getD (i - 1) 0 := fun e => c28 (by rw [e])
            rw [if_pos (Or.inr hc2)] at K
            exact d_gain_step h (by omega) st (ih (i + 1) _ (by omega) K)
  refine cw_of (M := mX0_neighboursByGain) fx_X0_neighboursByGain (lv := [.ref 15, .ref x, dmy, dmy]) rfl (Nat.le_of_ble_eq_true rfl) ?_
  refine e_ic (0) dX0_neighboursByGain_0 (by decide) (pn 1 rfl ?_)
  refine s_in [_, _, _, _] dX0_neighboursByGain_1 (Nat.le_of_ble_eq_true rfl) rfl (pn 2 rfl ?_)
  refine e_ic (0) dX0_neighboursByGain_2 (by decide) (pn 3 rfl ?_)
  refine s_in [_, _, _, _] dX0_neighboursByGain_3 (Nat.le_of_ble_eq_true rfl) rfl (pn 4 rfl ?_)
  refine pw (w1 := wN w (0, v, z)) (by show w = (w.set 16 (rowW v)).set 17 (rowW z); rw [set_id h16, set_id h17]) ?_
  refine outer u.length 0 (0, v, z) (by omega) ?_
  refine e_iload_n dX0_neighboursByGain_60 rfl (pn 61 rfl ?_)
  exact e_iret dX0_neighboursByGain_61 rfl rfl rfl
abbrev nlC (u : List Nat) (i l : Nat) : Prop := i = u.length ∨ ¬ l = u.getD i 0
def nlI (q n m a b lm : Nat) (u : List Nat) (i : Nat) : Nat → Nat → NS → NS
  | 0, _, st => st
  | k + 1, l, st => nlI q n m a b lm u i k (l + 1) (if nlC u i l then stN q n m a b lm (u.insertIdx i l) st else st)
def nlO (q n m a b lm : Nat) (u : List Nat) : Nat → Nat → NS → NS
  | 0, _, st => st
  | k + 1, i, st => nlO q n m a b lm u k (i + 1) (nlI q n m a b lm u i q 0 st)
theorem d_loss_step {w : Wd} {wr q n m a b lm x : Nat} {sz : Int32} {u : List Nat} (h : nH w wr q n m a b lm sz x u) (h24 : u.length < 24) {r : Option Value} {w' : Wd} {i l : Nat} (hi : i ≤ u.length) (hl : l < 4) (st : NS) (K : EW mX0_neighboursByLoss none 15 [.ref 15, .ref x, .int (nI (stN q n m a b lm (u.insertIdx i l) st).1), .int (nI i), .int (nI (l + 1))] [] (wN w (stN q n m a b lm (u.insertIdx i l) st)) r w') : EW mX0_neighboursByLoss none 42 [.ref 15, .ref x, .int (nI st.1), .int (nI i), .int (nI l)] [] (wN w st) r w' := by
  have ok := h.2.2.2.1
  obtain ⟨g, g16, g17⟩ := h.up st
  refine e_aload_n dX0_neighboursByLoss_42 rfl (pn 43 rfl ?_)
  refine e_get dX0_neighboursByLoss_43 fl_X0_12 g.1 rfl (pn 46 rfl ?_)
  refine e_aload_n dX0_neighboursByLoss_46 rfl (pn 47 rfl ?_)
  refine c_V0 dX0_neighboursByLoss_47 ml_X0_104 mv_X4_become (by decide) (r_become g16 g.2.2.1) g16 rfl rfl (Nat.le_of_ble_eq_true rfl) (pn 50 rfl ?_)
  rw [wN16]
  obtain ⟨g2, g216, g217⟩ := h.up (st.1, u, st.2.2)
  refine e_aload_n dX0_neighboursByLoss_50 rfl (pn 51 rfl ?_)
  refine e_get dX0_neighboursByLoss_51 fl_X0_12 g2.1 rfl (pn 54 rfl ?_)
  refine e_iload_n dX0_neighboursByLoss_54 rfl (pn 55 rfl ?_)
  refine e_iload dX0_neighboursByLoss_55 rfl (pn 57 rfl ?_)
  refine c_V0 dX0_neighboursByLoss_57 ml_X0_118 mv_X4_gain (by decide) (w_gain ok g216 hi hl) g216 rfl rfl (Nat.le_of_ble_eq_true rfl) (pn 60 rfl ?_)
  rw [wN16]
  refine e_iload_n dX0_neighboursByLoss_60 rfl (pn 61 rfl ?_)
  refine e_aload_n dX0_neighboursByLoss_61 rfl (pn 62 rfl ?_)
  refine d_take h st (u.insertIdx i l) (okW_ins ok h24 hi hl) dX0_neighboursByLoss_62 ml_X0_111 (by decide) (fun y hy => pn 65 rfl ?_)
  refine e_iadd dX0_neighboursByLoss_65 (pn 66 rfl ?_)
  refine s_in [_, _, _, _, _] dX0_neighboursByLoss_66 (Nat.le_of_ble_eq_true rfl) rfl (pn 67 rfl ?_)
  refine s_inc [_, _, _, _, _] (1) dX0_neighboursByLoss_67 (by decide) rfl (Nat.le_of_ble_eq_true rfl) rfl (pn 70 rfl ?_)
  refine e_goto 15 dX0_neighboursByLoss_70 (by decide) ?_
  rw [hy, nI_1]
  exact K
theorem d_loss {w : Wd} {wr q n m a b lm x : Nat} {sz : Int32} {u : List Nat} (h : nH w wr q n m a b lm sz x u) (h24 : u.length < 24) {v z : List Nat} (h16 : w[16]? = some (rowW v)) (h17 : w[17]? = some (rowW z)) : CW mX0_neighboursByLoss [.ref 15, .ref x] w (some (.int (nI (nlO q n m a b lm u (u.length + 1) 0 (0, v, z)).1))) (wN w (nlO q n m a b lm u (u.length + 1) 0 (0, v, z))) := by
  have ok := h.2.2.2.1
  have hq := h.2.1.1
  have b1 := ok.1
  have inner : ∀ {r : Option Value} {w' : Wd} (i : Nat), i ≤ u.length → ∀ (k l : Nat) (st : NS), l + k = q → EW mX0_neighboursByLoss none 73 [.ref 15, .ref x, .int (nI (nlI q n m a b lm u i k l st).1), .int (nI i), dmy] [] (wN w (nlI q n m a b lm u i k l st)) r w' → EW mX0_neighboursByLoss none 15 [.ref 15, .ref x, .int (nI st.1), .int (nI i), .int (nI l)] [] (wN w st) r w' := by
    intro r w' i hi k
    have hu4 := okL_get ok.2 i
    induction k with
    | zero =>
      intro l st hl K
      refine e_iload dX0_neighboursByLoss_15 rfl (pn 17 rfl ?_)
      refine e_aload_n dX0_neighboursByLoss_17 rfl (pn 18 rfl ?_)
      refine e_get dX0_neighboursByLoss_18 fl_X0_25 (h.up st).1.1 rfl (pn 21 rfl ?_)
      refine e_icmp_ge 73 dX0_neighboursByLoss_21 (by decide) (fun c21 => ?_) (fun c21 => pn 24 rfl ?_)
      · exact e_dr [_, _, _, _, _] 4 rfl K
      · exact absurd (nI_le (by omega) (by omega)) c21
    | succ k ih =>
      intro l st hl K
      have g := (h.up st).1
      rw [nlI] at K
      refine e_iload dX0_neighboursByLoss_15 rfl (pn 17 rfl ?_)
      refine e_aload_n dX0_neighboursByLoss_17 rfl (pn 18 rfl ?_)
      refine e_get dX0_neighboursByLoss_18 fl_X0_25 g.1 rfl (pn 21 rfl ?_)
      refine e_icmp_ge 73 dX0_neighboursByLoss_21 (by decide) (fun c21 => ?_) (fun c21 => pn 24 rfl ?_)
      · exact absurd c21 (nI_ge (by omega) (by omega))
      · refine e_iload_n dX0_neighboursByLoss_24 rfl (pn 25 rfl ?_)
        refine e_aload_n dX0_neighboursByLoss_25 rfl (pn 26 rfl ?_)
        refine e_get dX0_neighboursByLoss_26 fl_X0_79 g.2.2.1 rfl (pn 29 rfl ?_)
        refine e_icmp_eq 42 dX0_neighboursByLoss_29 (by decide) (fun c29 => ?_) (fun c29 => pn 32 rfl ?_)
        · have hc : i = u.length := (nI_eq (by omega) (by omega)).mp c29
          rw [if_pos (Or.inl hc)] at K
          exact d_loss_step h h24 hi (by omega) st (ih (l + 1) _ (by omega) K)
        · have hc : ¬ i = u.length := fun e => c29 (by rw [e])
          refine e_iload dX0_neighboursByLoss_32 rfl (pn 34 rfl ?_)
          refine e_aload_n dX0_neighboursByLoss_34 rfl (pn 35 rfl ?_)
          refine e_iload_n dX0_neighboursByLoss_35 rfl (pn 36 rfl ?_)
          refine c_V1 dX0_neighboursByLoss_36 ml_X0_80 mv_X4_letter (by decide) (w_letter ok g.2.2.1 (show i < 32 by omega)) g.2.2.1 rfl rfl (Nat.le_of_ble_eq_true rfl) (pn 39 rfl ?_)
          refine e_icmp_eq 67 dX0_neighboursByLoss_39 (by decide) (fun c39 => ?_) (fun c39 => pn 42 rfl ?_)
          · have hc2 : l = u.getD i 0 := (nI_eq (by omega) (by omega)).mp c39
            rw [if_neg (fun e => e.elim hc (fun e => e hc2))] at K
            refine s_inc [_, _, _, _, _] (1) dX0_neighboursByLoss_67 (by decide) rfl (Nat.le_of_ble_eq_true rfl) rfl (pn 70 rfl ?_)
            refine e_goto 15 dX0_neighboursByLoss_70 (by decide) ?_
            rw [nI_1]
            exact ih (l + 1) _ (by omega) K
          · have hc2 : ¬ l = u.getD i 0 := fun e => c39 (by rw [e])
            rw [if_pos (Or.inr hc2)] at K
            exact d_loss_step h h24 hi (by omega) st (ih (l + 1) _ (by omega) K)
  have outer : ∀ {r : Option Value} {w' : Wd} (k i : Nat) (st : NS), i + k = u.length + 1 → EW mX0_neighboursByLoss none 79 [.ref 15, .ref x, .int (nI (nlO q n m a b lm u k i st).1), dmy, dmy] [] (wN w (nlO q n m a b lm u k i st)) r w' → EW mX0_neighboursByLoss none 4 [.ref 15, .ref x, .int (nI st.1), .int (nI i), dmy] [] (wN w st) r w' := by
    intro r w' k
    induction k with
    | zero =>
      intro i st hi K
      refine e_iload_n dX0_neighboursByLoss_4 rfl (pn 5 rfl ?_)
      refine e_aload_n dX0_neighboursByLoss_5 rfl (pn 6 rfl ?_)
      refine e_get dX0_neighboursByLoss_6 fl_X0_79 (h.up st).1.2.2.1 rfl (pn 9 rfl ?_)
      refine e_icmp_gt 79 dX0_neighboursByLoss_9 (by decide) (fun c9 => ?_) (fun c9 => pn 12 rfl ?_)
      · exact e_dr [_, _, _, _, _] 3 rfl K
      · exact absurd (nI_lt (by omega) (by omega)) c9
    | succ k ih =>
      intro i st hi K
      refine e_iload_n dX0_neighboursByLoss_4 rfl (pn 5 rfl ?_)
      refine e_aload_n dX0_neighboursByLoss_5 rfl (pn 6 rfl ?_)
      refine e_get dX0_neighboursByLoss_6 fl_X0_79 (h.up st).1.2.2.1 rfl (pn 9 rfl ?_)
      refine e_icmp_gt 79 dX0_neighboursByLoss_9 (by decide) (fun c9 => ?_) (fun c9 => pn 12 rfl ?_)
      · exact absurd c9 (nI_nlt (by omega) (by omega))
      · refine e_ic (0) dX0_neighboursByLoss_12 (by decide) (pn 13 rfl ?_)
        refine s_i [_, _, _, _, _] dX0_neighboursByLoss_13 (Nat.le_of_ble_eq_true rfl) rfl (pn 15 rfl ?_)
        refine inner i (by omega) q 0 st (by omega) ?_
        refine s_inc [_, _, _, _, _] (1) dX0_neighboursByLoss_73 (by decide) rfl (Nat.le_of_ble_eq_true rfl) rfl (pn 76 rfl ?_)
        refine e_goto 4 dX0_neighboursByLoss_76 (by decide) ?_
        rw [nI_1]
        exact ih (i + 1) _ (by omega) K
  refine cw_of (M := mX0_neighboursByLoss) fx_X0_neighboursByLoss (lv := [.ref 15, .ref x, dmy, dmy, dmy]) rfl (Nat.le_of_ble_eq_true rfl) ?_
  refine e_ic (0) dX0_neighboursByLoss_0 (by decide) (pn 1 rfl ?_)
  refine s_in [_, _, _, _, _] dX0_neighboursByLoss_1 (Nat.le_of_ble_eq_true rfl) rfl (pn 2 rfl ?_)
  refine e_ic (0) dX0_neighboursByLoss_2 (by decide) (pn 3 rfl ?_)
  refine s_in [_, _, _, _, _] dX0_neighboursByLoss_3 (Nat.le_of_ble_eq_true rfl) rfl (pn 4 rfl ?_)
  refine pw (w1 := wN w (0, v, z)) (by show w = (w.set 16 (rowW v)).set 17 (rowW z); rw [set_id h16, set_id h17]) ?_
  refine outer (u.length + 1) 0 (0, v, z) (by omega) ?_
  refine e_iload_n dX0_neighboursByLoss_79 rfl (pn 80 rfl ?_)
  exact e_iret dX0_neighboursByLoss_80 rfl rfl rfl
def nbV (q n m a b lm : Nat) (u : List Nat) (st : NS) : NS := if u.length = n then ntO q n m a b lm u u.length 0 st else if u.length = n + 1 then ngO q n m a b lm u u.length 0 st else if u.length + 1 = n then nlO q n m a b lm u (u.length + 1) 0 st else st
theorem d_nb {w : Wd} {wr q n m a b lm x : Nat} {sz : Int32} {u : List Nat} (h : nH w wr q n m a b lm sz x u) {v z : List Nat} (h16 : w[16]? = some (rowW v)) (h17 : w[17]? = some (rowW z)) : CW mX0_neighbours [.ref 15, .ref x] w (some (.int (nI (nbV q n m a b lm u (0, v, z)).1))) (wN w (nbV q n m a b lm u (0, v, z))) := by
  obtain ⟨h1, hP, hx, ok, hr⟩ := id h
  obtain ⟨hq, hn, hm, ha, hb, hlm⟩ := id hP
  have b1 := ok.1
  refine cw_of (M := mX0_neighbours) fx_X0_neighbours (lv := [.ref 15, .ref x]) rfl (Nat.le_of_ble_eq_true rfl) ?_
  refine e_aload_n dX0_neighbours_0 rfl (pn 1 rfl ?_)
  refine e_get dX0_neighbours_1 fl_X0_79 hx rfl (pn 4 rfl ?_)
  refine e_aload_n dX0_neighbours_4 rfl (pn 5 rfl ?_)
  refine e_get dX0_neighbours_5 fl_X0_35 h1 rfl (pn 8 rfl ?_)
  refine e_icmp_ne 17 dX0_neighbours_8 (by decide) (fun c8 => ?_) (fun c8 => pn 11 rfl ?_)
  · have hc : ¬ u.length = n := fun e => c8 (by rw [e])
    rw [nbV, if_neg hc]
    refine e_aload_n dX0_neighbours_17 rfl (pn 18 rfl ?_)
    refine e_get dX0_neighbours_18 fl_X0_79 hx rfl (pn 21 rfl ?_)
    refine e_aload_n dX0_neighbours_21 rfl (pn 22 rfl ?_)
    refine e_get dX0_neighbours_22 fl_X0_35 h1 rfl (pn 25 rfl ?_)
    refine e_ic (1) dX0_neighbours_25 (by decide) (pn 26 rfl ?_)
    refine e_iadd dX0_neighbours_26 (pn 27 rfl ?_)
    rw [nI_1]
    refine e_icmp_ne 36 dX0_neighbours_27 (by decide) (fun c27 => ?_) (fun c27 => pn 30 rfl ?_)
    · have hc2 : ¬ u.length = n + 1 := fun e => c27 (by rw [e])
      rw [if_neg hc2]
      refine e_aload_n dX0_neighbours_36 rfl (pn 37 rfl ?_)
      refine e_get dX0_neighbours_37 fl_X0_79 hx rfl (pn 40 rfl ?_)
      refine e_aload_n dX0_neighbours_40 rfl (pn 41 rfl ?_)
      refine e_get dX0_neighbours_41 fl_X0_35 h1 rfl (pn 44 rfl ?_)
      refine e_ic (1) dX0_neighbours_44 (by decide) (pn 45 rfl ?_)
      refine e_isub dX0_neighbours_45 (pn 46 rfl ?_)
      rw [show nI n - 1 = nI (n - 1) from pk_sub (b := 1) hn.1]
      refine e_icmp_ne 57 dX0_neighbours_46 (by decide) (fun c46 => ?_) (fun c46 => pn 49 rfl ?_)
      · have hc3 : ¬ u.length + 1 = n := fun e => c46 (by rw [← e]; rfl)
        rw [if_neg hc3]
        refine e_ic (0) dX0_neighbours_57 (by decide) (pn 58 rfl ?_)
        exact e_iret dX0_neighbours_58 rfl rfl (by show w = (w.set 16 (rowW v)).set 17 (rowW z); rw [set_id h16, set_id h17])
      · have hc3 : u.length = n - 1 := (nI_eq (by omega) (by omega)).mp c46
        rw [if_pos (by omega)]
        refine e_aload_n dX0_neighbours_49 rfl (pn 50 rfl ?_)
        refine e_aload_n dX0_neighbours_50 rfl (pn 51 rfl ?_)
        refine c_V1 dX0_neighbours_51 ml_X0_101 mv_X0_neighboursByLoss (by decide) (d_loss h (by omega) h16 h17) h1 rfl rfl (Nat.le_of_ble_eq_true rfl) (pn 54 rfl ?_)
        refine e_goto 58 dX0_neighbours_54 (by decide) ?_
        exact e_iret dX0_neighbours_58 rfl rfl rfl
    · have hc2 : u.length = n + 1 := (nI_eq (by omega) (by omega)).mp c27
      rw [if_pos hc2]
      refine e_aload_n dX0_neighbours_30 rfl (pn 31 rfl ?_)
      refine e_aload_n dX0_neighbours_31 rfl (pn 32 rfl ?_)
      refine c_V1 dX0_neighbours_32 ml_X0_98 mv_X0_neighboursByGain (by decide) (d_gain h h16 h17) h1 rfl rfl (Nat.le_of_ble_eq_true rfl) (pn 35 rfl ?_)
      exact e_iret dX0_neighbours_35 rfl rfl rfl
  · have hc : u.length = n := (nI_eq (by omega) (by omega)).mp c8
    rw [nbV, if_pos hc]
    refine e_aload_n dX0_neighbours_11 rfl (pn 12 rfl ?_)
    refine e_aload_n dX0_neighbours_12 rfl (pn 13 rfl ?_)
    refine c_V1 dX0_neighbours_13 ml_X0_95 mv_X0_neighboursByTurn (by decide) (d_turn h h16 h17) h1 rfl rfl (Nat.le_of_ble_eq_true rfl) (pn 16 rfl ?_)
    exact e_iret dX0_neighbours_16 rfl rfl rfl
