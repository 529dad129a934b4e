/-! LostLetters$Line: this at 39, carried at 40 -/
abbrev lnF (bl bg bt : Nat) (seed : Int64) : Cel := oB 1 [.ref 40, .int (nI bl), .int (nI bg), .int (nI bt), .long seed]
theorem k_tell {w : Wd} {bl bg bt : Nat} {seed : Int64} (h : w[39]? = some (lnF bl bg bt seed)) (x y z : Nat) : CW mX1_tell [.ref 39, .int (nI x), .int (nI y), .int (nI z)] w none (w.set 39 (lnF x (x + y) (x + y + z) seed)) := by
  refine cw_of (M := mX1_tell) fx_X1_tell (lv := [.ref 39, .int (nI x), .int (nI y), .int (nI z)]) rfl (Nat.le_of_ble_eq_true rfl) ?_
  refine e_aload_n dX1_tell_0 rfl (pn 1 rfl ?_)
  refine e_iload_n dX1_tell_1 rfl (pn 2 rfl ?_)
  refine e_put dX1_tell_2 fp_X1_20 h rfl (Nat.le_of_ble_eq_true rfl) (pn 5 rfl ?_)
  refine e_aload_n dX1_tell_5 rfl (pn 6 rfl ?_)
  refine e_iload_n dX1_tell_6 rfl (pn 7 rfl ?_)
  refine e_iload_n dX1_tell_7 rfl (pn 8 rfl ?_)
  refine e_iadd dX1_tell_8 (pn 9 rfl ?_)
  refine e_put dX1_tell_9 fp_X1_24 (gse h) rfl (Nat.le_of_ble_eq_true rfl) (pn 12 rfl ?_)
  refine e_aload_n dX1_tell_12 rfl (pn 13 rfl ?_)
  refine e_iload_n dX1_tell_13 rfl (pn 14 rfl ?_)
  refine e_iload_n dX1_tell_14 rfl (pn 15 rfl ?_)
  refine e_iadd dX1_tell_15 (pn 16 rfl ?_)
  refine e_iload_n dX1_tell_16 rfl (pn 17 rfl ?_)
  refine e_iadd dX1_tell_17 (pn 18 rfl ?_)
  refine e_put dX1_tell_18 fp_X1_27 (gse (gse h)) rfl (Nat.le_of_ble_eq_true rfl) (pn 21 rfl ?_)
  exact e_vret dX1_tell_21 rfl rfl (by simp [nI_add])
theorem k_up1 {w : Wd} {bl bg bt : Nat} {seed : Int64} (h : w[39]? = some (lnF bl bg bt seed)) {c : List Nat} (hc : w[40]? = some (rowW c)) (ok : okW c) (hl : c.length < 24) {l : Nat} (h4 : l < 4) : CW mX1_takeUp [.ref 39, .int (nI l)] w (some (.int 1)) (w.set 40 (rowW (c ++ [l]))) := by
  have F := r_isFull hc
  rw [show (24 : Int32) = nI 24 from rfl, if_pos (nI_lt hl (by omega))] at F
  refine cw_of (M := mX1_takeUp) fx_X1_takeUp (lv := [.ref 39, .int (nI l)]) rfl (Nat.le_of_ble_eq_true rfl) ?_
  refine e_aload_n dX1_takeUp_0 rfl (pn 1 rfl ?_)
  refine e_get dX1_takeUp_1 fl_X1_10 h rfl (pn 4 rfl ?_)
  refine c_V1 dX1_takeUp_4 ml_X1_54 mv_X4_isFull (by decide) F hc rfl rfl (Nat.le_of_ble_eq_true rfl) (pn 7 rfl ?_)
  refine e_if_eq 12 dX1_takeUp_7 (by decide) (fun c7 => ?_) (fun c7 => pn 10 rfl ?_)
  · refine e_aload_n dX1_takeUp_12 rfl (pn 13 rfl ?_)
    refine e_get dX1_takeUp_13 fl_X1_10 h rfl (pn 16 rfl ?_)
    refine e_iload_n dX1_takeUp_16 rfl (pn 17 rfl ?_)
    refine c_V0 dX1_takeUp_17 ml_X1_58 mv_X4_append (by decide) (w_append ok hc h4) hc rfl rfl (Nat.le_of_ble_eq_true rfl) (pn 20 rfl ?_)
    refine e_ic (1) dX1_takeUp_20 (by decide) (pn 21 rfl ?_)
    exact e_zret dX1_takeUp_21 rfl (by decide) rfl rfl
  · exact absurd rfl c7
theorem k_up0 {w : Wd} {bl bg bt : Nat} {seed : Int64} (h : w[39]? = some (lnF bl bg bt seed)) {c : List Nat} (hc : w[40]? = some (rowW c)) (ok : okW c) (hl : ¬ c.length < 24) (l : Int32) : CW mX1_takeUp [.ref 39, .int l] w (some (.int 0)) w := by
  have F := r_isFull hc
  rw [show (24 : Int32) = nI 24 from rfl, if_neg (nI_nlt (by omega) (by have := ok.1; omega))] at F
  refine cw_of (M := mX1_takeUp) fx_X1_takeUp (lv := [.ref 39, .int l]) rfl (Nat.le_of_ble_eq_true rfl) ?_
  refine e_aload_n dX1_takeUp_0 rfl (pn 1 rfl ?_)
  refine e_get dX1_takeUp_1 fl_X1_10 h rfl (pn 4 rfl ?_)
  refine c_V1 dX1_takeUp_4 ml_X1_54 mv_X4_isFull (by decide) F hc rfl rfl (Nat.le_of_ble_eq_true rfl) (pn 7 rfl ?_)
  refine e_if_eq 12 dX1_takeUp_7 (by decide) (fun c7 => ?_) (fun c7 => pn 10 rfl ?_)
  · exact absurd c7 (by decide)
  · refine e_ic (0) dX1_takeUp_10 (by decide) (pn 11 rfl ?_)
    exact e_zret dX1_takeUp_11 rfl (by decide) rfl rfl
/-- one letter more, if there is room -/
def tuW (c : List Nat) (l : Nat) : Bool × List Nat := if c.length < 24 then (true, c ++ [l]) else (false, c)
def bI (b : Bool) : Int32 := if b then 1 else 0
theorem bI_and (b : Bool) : bI b &&& 1 = bI b := by cases b <;> decide
theorem tuW_ok {c : List Nat} (ok : okW c) {l : Nat} (h4 : l < 4) : okW (tuW c l).2 := by
  unfold tuW
  split
  · rename_i h; exact okW_snoc ok h h4
  · exact ok
theorem k_up {w : Wd} {bl bg bt : Nat} {seed : Int64} (h : w[39]? = some (lnF bl bg bt seed)) {c : List Nat} (hc : w[40]? = some (rowW c)) (ok : okW c) {l : Nat} (h4 : l < 4) : CW mX1_takeUp [.ref 39, .int (nI l)] w (some (.int (bI (tuW c l).1))) (w.set 40 (rowW (tuW c l).2)) := by
  by_cases hl : c.length < 24
  · have := k_up1 h hc ok hl h4
    rw [tuW, if_pos hl]
    exact this
  · have := k_up0 h hc ok hl (nI l)
    rw [tuW, if_neg hl]
    show CW mX1_takeUp _ w _ (w.set 40 (rowW c))
    rw [set_id hc]
    exact this
def clW (bl bg bt q l v : Nat) (c : List Nat) : Bool × List Nat :=
  if v < bl then (true, c) else if v < bg then (if (tuW c (v % q)).1 then tuW (tuW c (v % q)).2 l else (false, (tuW c (v % q)).2)) else tuW c (if v < bt then (l + v % (q - 1) + 1) % q else l)
theorem clW_ok {bl bg bt q l v : Nat} {c : List Nat} (hq : 2 ≤ q ∧ q ≤ 4) (h4 : l < 4) (ok : okW c) : okW (clW bl bg bt q l v c).2 := by
  have m1 := Nat.mod_lt v (show 0 < q by omega)
  have m2 := Nat.mod_lt (l + v % (q - 1) + 1) (show 0 < q by omega)
  have o1 := tuW_ok ok (l := v % q) (by omega)
  unfold clW
  split
  · exact ok
  · split
    · split
      · exact tuW_ok o1 h4
      · exact o1
    · split
      · exact tuW_ok ok (by omega)
      · exact tuW_ok ok h4
theorem k_cl {w : Wd} {bl bg bt : Nat} {seed : Int64} (h : w[39]? = some (lnF bl bg bt seed)) (hbl : bl ≤ 64 ∧ bg ≤ 64 ∧ bt ≤ 64) {c : List Nat} (hc : w[40]? = some (rowW c)) (ok : okW c) {q l v : Nat} (hq : 2 ≤ q ∧ q ≤ 4) (h4 : l < 4) (hv : v < 64) : CW mX1_carryLetter [.ref 39, .int (nI l), .int (nI v), .int (nI q)] w (some (.int (bI (clW bl bg bt q l v c).1))) (w.set 40 (rowW (clW bl bg bt q l v c).2)) := by
  have m1 := Nat.mod_lt v (show 0 < q by omega)
  have m2 := Nat.mod_lt (l + v % (q - 1) + 1) (show 0 < q by omega)
  have m3 := Nat.mod_lt v (show 0 < q - 1 by omega)
  refine cw_of (M := mX1_carryLetter) fx_X1_carryLetter (lv := [.ref 39, .int (nI l), .int (nI v), .int (nI q)]) rfl (Nat.le_of_ble_eq_true rfl) ?_
  refine e_iload_n dX1_carryLetter_0 rfl (pn 1 rfl ?_)
  refine e_aload_n dX1_carryLetter_1 rfl (pn 2 rfl ?_)
  refine e_get dX1_carryLetter_2 fl_X1_20 h rfl (pn 5 rfl ?_)
  refine e_icmp_ge 10 dX1_carryLetter_5 (by decide) (fun c5 => ?_) (fun c5 => pn 8 rfl ?_)
  · have hc1 : ¬ v < bl := fun e => nI_ge e (by omega) c5
    rw [clW, if_neg hc1]
    refine e_iload_n dX1_carryLetter_10 rfl (pn 11 rfl ?_)
    refine e_aload_n dX1_carryLetter_11 rfl (pn 12 rfl ?_)
    refine e_get dX1_carryLetter_12 fl_X1_24 h rfl (pn 15 rfl ?_)
    refine e_icmp_ge 42 dX1_carryLetter_15 (by decide) (fun c15 => ?_) (fun c15 => pn 18 rfl ?_)
    · have hc2 : ¬ v < bg := fun e => nI_ge e (by omega) c15
      rw [if_neg hc2]
      refine e_aload_n dX1_carryLetter_42 rfl (pn 43 rfl ?_)
      refine e_iload_n dX1_carryLetter_43 rfl (pn 44 rfl ?_)
      refine e_aload_n dX1_carryLetter_44 rfl (pn 45 rfl ?_)
      refine e_get dX1_carryLetter_45 fl_X1_27 h rfl (pn 48 rfl ?_)
      refine e_icmp_ge 65 dX1_carryLetter_48 (by decide) (fun c48 => ?_) (fun c48 => pn 51 rfl ?_)
      · have hc3 : ¬ v < bt := fun e => nI_ge e (by omega) c48
        rw [if_neg hc3]
        refine e_iload_n dX1_carryLetter_65 rfl (pn 66 rfl ?_)
        refine c_V1 dX1_carryLetter_66 ml_X1_50 mv_X1_takeUp (by decide) (k_up h hc ok h4) h rfl rfl (Nat.le_of_ble_eq_true rfl) (pn 69 rfl ?_)
        exact e_zret dX1_carryLetter_69 rfl (bI_and _) rfl rfl
      · have hc3 : v < bt := Nat.lt_of_not_le (fun e => c48 (nI_le e (by omega)))
        rw [if_pos hc3]
        refine e_iload_n dX1_carryLetter_51 rfl (pn 52 rfl ?_)
        refine e_iload_n dX1_carryLetter_52 rfl (pn 53 rfl ?_)
        refine e_iload_n dX1_carryLetter_53 rfl (pn 54 rfl ?_)
        refine e_ic (1) dX1_carryLetter_54 (by decide) (pn 55 rfl ?_)
        refine e_isub dX1_carryLetter_55 (pn 56 rfl ?_)
        rw [show nI q - 1 = nI (q - 1) from pk_sub (b := 1) (by omega)]
        refine e_irem dX1_carryLetter_56 (nI_ne0 (by omega) (by omega)) (pn 57 rfl ?_)
        rw [pk_rem (by omega) (by omega) (by omega)]
        refine e_iadd dX1_carryLetter_57 (pn 58 rfl ?_)
        refine e_ic (1) dX1_carryLetter_58 (by decide) (pn 59 rfl ?_)
        refine e_iadd dX1_carryLetter_59 (pn 60 rfl ?_)
        refine e_iload_n dX1_carryLetter_60 rfl (pn 61 rfl ?_)
        rw [nI_add, nI_1]
        refine e_irem dX1_carryLetter_61 (nI_ne0 (by omega) (by omega)) (pn 62 rfl ?_)
        refine e_goto 66 dX1_carryLetter_62 (by decide) ?_
        rw [pk_rem (by omega) (by omega) (by omega)]
        refine c_V1 dX1_carryLetter_66 ml_X1_50 mv_X1_takeUp (by decide) (k_up h hc ok (show (l + v % (q - 1) + 1) % q < 4 by omega)) h rfl rfl (Nat.le_of_ble_eq_true rfl) (pn 69 rfl ?_)
        exact e_zret dX1_carryLetter_69 rfl (bI_and _) rfl rfl
    · have hc2 : v < bg := Nat.lt_of_not_le (fun e => c15 (nI_le e (by omega)))
      rw [if_pos hc2]
      refine e_aload_n dX1_carryLetter_18 rfl (pn 19 rfl ?_)
      refine e_iload_n dX1_carryLetter_19 rfl (pn 20 rfl ?_)
      refine e_iload_n dX1_carryLetter_20 rfl (pn 21 rfl ?_)
      refine e_irem dX1_carryLetter_21 (nI_ne0 (by omega) (by omega)) (pn 22 rfl ?_)
      rw [pk_rem (by omega) (by omega) (by omega)]
      refine c_V1 dX1_carryLetter_22 ml_X1_50 mv_X1_takeUp (by decide) (k_up h hc ok (show v % q < 4 by omega)) h rfl rfl (Nat.le_of_ble_eq_true rfl) (pn 25 rfl ?_)
      have g : (w.set 40 (rowW (tuW c (v % q)).2))[39]? = some (lnF bl bg bt seed) := gne (by decide) h
      have g2 : (w.set 40 (rowW (tuW c (v % q)).2))[40]? = some (rowW (tuW c (v % q)).2) := gse hc
      have o1 := tuW_ok ok (l := v % q) (by omega)
      by_cases ht : (tuW c (v % q)).1 = true
      · rw [if_pos ht, ht]
        refine e_if_eq 40 dX1_carryLetter_25 (by decide) (fun c25 => ?_) (fun c25 => pn 28 rfl ?_)
        · exact absurd c25 (by decide)
        · refine e_aload_n dX1_carryLetter_28 rfl (pn 29 rfl ?_)
          refine e_iload_n dX1_carryLetter_29 rfl (pn 30 rfl ?_)
          refine c_V1 dX1_carryLetter_30 ml_X1_50 mv_X1_takeUp (by decide) (k_up g g2 o1 h4) g rfl rfl (Nat.le_of_ble_eq_true rfl) (pn 33 rfl ?_)
          rw [List.set_set]
          by_cases ht2 : (tuW (tuW c (v % q)).2 l).1 = true
          · rw [ht2]
            refine e_if_eq 40 dX1_carryLetter_33 (by decide) (fun c33 => ?_) (fun c33 => pn 36 rfl ?_)
            · exact absurd c33 (by decide)
            · refine e_ic (1) dX1_carryLetter_36 (by decide) (pn 37 rfl ?_)
              refine e_goto 41 dX1_carryLetter_37 (by decide) ?_
              exact e_zret dX1_carryLetter_41 rfl (by decide) rfl rfl
          · have ht3 : (tuW (tuW c (v % q)).2 l).1 = false := by simpa using ht2
            rw [ht3]
            refine e_if_eq 40 dX1_carryLetter_33 (by decide) (fun c33 => ?_) (fun c33 => pn 36 rfl ?_)
            · refine e_ic (0) dX1_carryLetter_40 (by decide) (pn 41 rfl ?_)
              exact e_zret dX1_carryLetter_41 rfl (by decide) rfl rfl
            · exact absurd rfl c33
      · have ht3 : (tuW c (v % q)).1 = false := by simpa using ht
        rw [if_neg ht, ht3]
        refine e_if_eq 40 dX1_carryLetter_25 (by decide) (fun c25 => ?_) (fun c25 => pn 28 rfl ?_)
        · refine e_ic (0) dX1_carryLetter_40 (by decide) (pn 41 rfl ?_)
          exact e_zret dX1_carryLetter_41 rfl (by decide) rfl rfl
        · exact absurd rfl c25
  · have hc1 : v < bl := Nat.lt_of_not_le (fun e => c5 (nI_le e (by omega)))
    rw [clW, if_pos hc1]
    refine e_ic (1) dX1_carryLetter_8 (by decide) (pn 9 rfl ?_)
    exact e_zret dX1_carryLetter_9 rfl (by decide) rfl (by show w = w.set 40 (rowW c); rw [set_id hc])
def nxS (x : Int64) : Int64 := (x * 25214903917 + 11) &&& 281474976710655
def vN (x : Int64) : Nat := x.toBitVec.toNat / 2 ^ 42
theorem nxS_n (x : Int64) : ∃ n, n < 2 ^ 48 ∧ nxS x = lN n := by
  obtain ⟨n, -, hn⟩ := wb_of (x * 25214903917 + 11)
  refine ⟨n % 2 ^ 48, Nat.mod_lt _ (by decide), ?_⟩
  unfold nxS
  rw [hn, show (281474976710655 : Int64) = lN (2 ^ 48 - 1) from by decide +kernel, fb_andL, Nat.and_two_pow_sub_one_eq_mod]
theorem vN_val (x : Int64) : ((nxS x).toUInt64 >>> ((42 : Int32).toInt64.toUInt64 &&& Int64.toUInt64 63)).toInt64.toInt32 = nI (vN (nxS x)) ∧ vN (nxS x) < 64 := by
  obtain ⟨n, h1, h2⟩ := nxS_n x
  have hv : vN (nxS x) = n / 2 ^ 42 := by unfold vN; rw [h2, wb_tn (by omega)]
  rw [hv, h2]
  constructor
  · rw [show (42 : Int32) = nI 42 from rfl, wb_shr (by omega) (by omega), lN_i]
  · rw [Nat.div_lt_iff_lt_mul (by decide)]
    omega
/-- the line over a row; the step is a variable, so that nothing unfolds it -/
abbrev LnT : Type := Nat → Int64 → List Nat → Bool × Int64 × List Nat
def crF (st : LnT) : Nat → Nat → Int64 → List Nat → Bool × Int64 × List Nat
  | 0, _, now, c => (true, now, c)
  | k + 1, i, now, c => if (st i now c).1 then crF st k (i + 1) (st i now c).2.1 (st i now c).2.2 else (false, (st i now c).2.1, (st i now c).2.2)
def lnS (bl bg bt q : Nat) (u : List Nat) (st : LnT) : Prop := ∀ i now c, (st i now c).1 = (clW bl bg bt q (u.getD i 0) (vN (nxS now)) c).1 ∧ (st i now c).2.1 = nxS now ∧ (st i now c).2.2 = (clW bl bg bt q (u.getD i 0) (vN (nxS now)) c).2
def crW (w : Wd) (bl bg bt : Nat) (x : Bool × Int64 × List Nat) : Wd := if x.1 then (w.set 40 (rowW x.2.2)).set 39 (lnF bl bg bt x.2.1) else w.set 40 (rowW x.2.2)
theorem lnS_ok {bl bg bt q : Nat} {u : List Nat} {st : LnT} (hs : lnS bl bg bt q u st) (hq : 2 ≤ q ∧ q ≤ 4) (ok : okW u) (i : Nat) (now : Int64) {c : List Nat} (h : okW c) : okW (st i now c).2.2 := by
  rw [(hs i now c).2.2]
  exact clW_ok hq (okL_get ok.2 i) h
theorem crF_ok {bl bg bt q : Nat} {u : List Nat} {st : LnT} (hs : lnS bl bg bt q u st) (hq : 2 ≤ q ∧ q ≤ 4) (ok : okW u) (k : Nat) : ∀ (i : Nat) (now : Int64) (c : List Nat), okW c → okW (crF st k i now c).2.2 := by
  induction k with
  | zero => intro i now c h; exact h
  | succ k ih =>
    intro i now c h
    have h2 := lnS_ok hs hq ok i now h
    rw [crF]
    by_cases ht : (st i now c).1 = true
    · rw [if_pos ht]; exact ih (i + 1) _ _ h2
    · rw [if_neg ht]; exact h2
theorem k_carry {w : Wd} {bl bg bt : Nat} {seed : Int64} (h : w[39]? = some (lnF bl bg bt seed)) (hbl : bl ≤ 64 ∧ bg ≤ 64 ∧ bt ≤ 64) {c0 : List Nat} (hc : w[40]? = some (rowW c0)) {x q : Nat} (hq : 2 ≤ q ∧ q ≤ 4) {u : List Nat} (hx : w[x]? = some (rowW u)) (ok : okW u) (ne : 40 ≠ x) {st : LnT} (hs : lnS bl bg bt q u st) : CW mX1_carry [.ref 39, .ref x, .int (nI q)] w (some (.int (bI (crF st u.length 0 seed []).1))) (crW w bl bg bt (crF st u.length 0 seed [])) := by
  have b1 := ok.1
  have loop : ∀ (k i : Nat) (now : Int64) (c : List Nat), i + k = u.length → okW c → EW mX1_carry none 15 [.ref 39, .ref x, .int (nI q), .long now, dmy, .int (nI i)] [] (w.set 40 (rowW c)) (some (.int (bI (crF st k i now c).1))) (crW w bl bg bt (crF st k i now c)) := by
    intro k
    induction k with
    | zero =>
      intro i now c hi okc
      have gx : (w.set 40 (rowW c))[x]? = some (rowW u) := gne ne hx
      have g : (w.set 40 (rowW c))[39]? = some (lnF bl bg bt seed) := gne (by decide) h
      refine e_iload dX1_carry_15 rfl (pn 17 rfl ?_)
      refine e_aload_n dX1_carry_17 rfl (pn 18 rfl ?_)
      refine e_get dX1_carry_18 fl_X1_33 gx rfl (pn 21 rfl ?_)
      refine e_icmp_ge 65 dX1_carry_21 (by decide) (fun c21 => ?_) (fun c21 => pn 24 rfl ?_)
      · refine e_aload_n dX1_carry_65 rfl (pn 66 rfl ?_)
        refine e_lload_n dX1_carry_66 rfl (pn 67 rfl ?_)
        refine e_put dX1_carry_67 fp_X1_16 g rfl (Nat.le_of_ble_eq_true rfl) (pn 70 rfl ?_)
        refine e_ic (1) dX1_carry_70 (by decide) (pn 71 rfl ?_)
        exact e_zret dX1_carry_71 rfl (by decide) rfl rfl
      · exact absurd (nI_le (by omega) (by omega)) c21
    | succ k ih =>
      intro i now c hi okc
      have gx : (w.set 40 (rowW c))[x]? = some (rowW u) := gne ne hx
      have g : (w.set 40 (rowW c))[39]? = some (lnF bl bg bt seed) := gne (by decide) h
      have gc : (w.set 40 (rowW c))[40]? = some (rowW c) := gse hc
      have u4 := okL_get ok.2 i
      have okn := lnS_ok hs hq ok i now okc
      obtain ⟨s1, s2, s3⟩ := hs i now c
      obtain ⟨v1, v2⟩ := vN_val now
      have KL := k_cl g hbl gc okc hq u4 v2
      rw [← s1, ← s3, List.set_set] at KL
      rw [← s2] at v1 KL
      generalize hX : st i now c = X at *
      refine e_iload dX1_carry_15 rfl (pn 17 rfl ?_)
      refine e_aload_n dX1_carry_17 rfl (pn 18 rfl ?_)
      refine e_get dX1_carry_18 fl_X1_33 gx rfl (pn 21 rfl ?_)
      refine e_icmp_ge 65 dX1_carry_21 (by decide) (fun c21 => ?_) (fun c21 => pn 24 rfl ?_)
      · exact absurd c21 (nI_ge (by omega) (by omega))
      · refine e_lload_n dX1_carry_24 rfl (pn 25 rfl ?_)
        refine e_ldc2 dX1_carry_25 lk_X1_36 (pn 28 rfl ?_)
        refine e_lmul dX1_carry_28 (pn 29 rfl ?_)
        refine e_ldc2 dX1_carry_29 lk_X1_38 (pn 32 rfl ?_)
        refine e_ladd dX1_carry_32 (pn 33 rfl ?_)
        refine e_ldc2 dX1_carry_33 lk_X1_40 (pn 36 rfl ?_)
        refine e_land dX1_carry_36 (pn 37 rfl ?_)
        refine s_ln [_, _, _, _, _, _] dX1_carry_37 (Nat.le_of_ble_eq_true rfl) rfl (pn 38 rfl ?_)
        rw [show (now * 25214903917 + 11 &&& 281474976710655) = X.2.1 from s2.symm]
        refine e_aload_n dX1_carry_38 rfl (pn 39 rfl ?_)
        refine e_aload_n dX1_carry_39 rfl (pn 40 rfl ?_)
        refine e_iload dX1_carry_40 rfl (pn 42 rfl ?_)
        refine c_V1 dX1_carry_42 ml_X1_42 mv_X4_letter (by decide) (w_letter ok gx (show i < 32 by omega)) gx rfl rfl (Nat.le_of_ble_eq_true rfl) (pn 45 rfl ?_)
        refine e_lload_n dX1_carry_45 rfl (pn 46 rfl ?_)
        refine e_bi (42) dX1_carry_46 (by decide) (pn 48 rfl ?_)
        refine e_lushr dX1_carry_48 (pn 49 rfl ?_)
        refine e_l2i dX1_carry_49 (pn 50 rfl ?_)
        rw [v1]
        refine e_iload_n dX1_carry_50 rfl (pn 51 rfl ?_)
        refine c_V1 dX1_carry_51 ml_X1_46 mv_X1_carryLetter (by decide) KL g rfl rfl (Nat.le_of_ble_eq_true rfl) (pn 54 rfl ?_)
        rw [crF, hX]
        by_cases ht : X.1 = true
        · rw [if_pos ht, ht]
          refine e_if_ne 59 dX1_carry_54 (by decide) (fun c54 => ?_) (fun c54 => pn 57 rfl ?_)
          · refine s_inc [_, _, _, _, _, _] (1) dX1_carry_59 (by decide) rfl (Nat.le_of_ble_eq_true rfl) rfl (pn 62 rfl ?_)
            refine e_goto 15 dX1_carry_62 (by decide) ?_
            rw [nI_1]
            exact ih (i + 1) _ _ (by omega) okn
          · exact absurd c54 (by decide)
        · have ht3 : X.1 = false := by simpa using ht
          rw [if_neg ht, ht3]
          refine e_if_ne 59 dX1_carry_54 (by decide) (fun c54 => ?_) (fun c54 => pn 57 rfl ?_)
          · exact absurd rfl c54
          · refine e_ic (0) dX1_carry_57 (by decide) (pn 58 rfl ?_)
            exact e_zret dX1_carry_58 rfl (by decide) rfl rfl
  refine cw_of (M := mX1_carry) fx_X1_carry (lv := [.ref 39, .ref x, .int (nI q), dmy, dmy, dmy]) rfl (Nat.le_of_ble_eq_true rfl) ?_
  refine e_aload_n dX1_carry_0 rfl (pn 1 rfl ?_)
  refine e_get dX1_carry_1 fl_X1_16 h rfl (pn 4 rfl ?_)
  refine s_ln [_, _, _, _, _, _] dX1_carry_4 (Nat.le_of_ble_eq_true rfl) rfl (pn 5 rfl ?_)
  refine e_aload_n dX1_carry_5 rfl (pn 6 rfl ?_)
  refine e_get dX1_carry_6 fl_X1_10 h rfl (pn 9 rfl ?_)
  refine c_V0 dX1_carry_9 ml_X1_30 mv_X4_clear (by decide) (w_clear hc) hc rfl rfl (Nat.le_of_ble_eq_true rfl) (pn 12 rfl ?_)
  refine e_ic (0) dX1_carry_12 (by decide) (pn 13 rfl ?_)
  refine s_i [_, _, _, _, _, _] dX1_carry_13 (Nat.le_of_ble_eq_true rfl) rfl (pn 15 rfl ?_)
  exact loop u.length 0 seed [] (by omega) ⟨by simp, fun a ha => by cases ha⟩
