/-! LostLettersModel: this at 41, many at 42, letter at 43, ends at 44, nearLetters at 45, ways at 46, longest at 47 -/
/-- q, n, m, a, b, traces, losses, gains, turns, seed, nears -/
abbrev Md : Type := Nat × Nat × Nat × Nat × Int32 × Nat × Nat × Nat × Nat × Int64 × Int32
abbrev mdF (D : Md) : Cel := oB 7 [.int (nI D.1), .ref 42, .ref 43, .int (nI D.2.1), .int (nI D.2.2.1), .int (nI D.2.2.2.1), .int D.2.2.2.2.1, .int (nI D.2.2.2.2.2.1), .int (nI D.2.2.2.2.2.2.1), .int (nI D.2.2.2.2.2.2.2.1), .int (nI D.2.2.2.2.2.2.2.2.1), .long D.2.2.2.2.2.2.2.2.2.1, .ref 44, .ref 45, .int D.2.2.2.2.2.2.2.2.2.2, .ref 46, .ref 47]
def mB (w : Wd) (D : Md) (mf lf : Nat → Int32) : Prop := w[41]? = some (mdF D) ∧ w[42]? = some (aI 24 mf) ∧ w[43]? = some (aI 720 lf)
abbrev wA (w : Wd) (mf lf : Nat → Int32) : Wd := (w.set 42 (aI 24 mf)).set 43 (aI 720 lf)
theorem mB.up {w : Wd} {D : Md} {mf lf : Nat → Int32} (h : mB w D mf lf) (mf2 lf2 : Nat → Int32) : mB (wA w mf2 lf2) D mf2 lf2 := ⟨gne (by decide) (gne (by decide) h.1), gne (by decide) (gse h.2.1), gse (gne (by decide) h.2.2)⟩
theorem wA_id {w : Wd} {D : Md} {mf lf : Nat → Int32} (h : mB w D mf lf) : wA w mf lf = w := by
  show (w.set 42 _).set 43 _ = w
  rw [set_id h.2.1, set_id h.2.2]
theorem wA42 (w : Wd) (mf lf mf2 : Nat → Int32) : (wA w mf lf).set 42 (aI 24 mf2) = wA w mf2 lf := by
  show ((w.set 42 _).set 43 _).set 42 _ = _
  rw [List.set_comm _ _ (by decide), List.set_set]
theorem wA43 (w : Wd) (mf lf lf2 : Nat → Int32) : (wA w mf lf).set 43 (aI 720 lf2) = wA w mf lf2 := by
  show ((w.set 42 _).set 43 _).set 43 _ = _
  rw [List.set_set]
theorem up_eq {α : Type} (f : Nat → α) (k : Nat) (v : α) : va_up f k v k = v := if_pos rfl
theorem up_ne {α : Type} (f : Nat → α) {k j : Nat} (v : α) (h : j ≠ k) : va_up f k v j = f j := if_neg h
theorem c30 (s k : Nat) : (30 : Int32) * nI s + nI k = nI (30 * s + k) := by rw [show (30 : Int32) = nI 30 from rfl, pk_mul, nI_add]
theorem cmp_lt (x y : Int64) : lg_cmp x y < 0 ↔ x < y := by
  unfold lg_cmp
  by_cases h : y < x
  · rw [if_pos h]; exact ⟨fun e => absurd e (by decide), fun e => by rw [fa_lt64] at h e; omega⟩
  · rw [if_neg h]
    by_cases h2 : x = y
    · rw [if_pos h2]; exact ⟨fun e => absurd e (by decide), fun e => by rw [fa_lt64] at e; rw [h2] at e; omega⟩
    · rw [if_neg h2]
      refine ⟨fun _ => ?_, fun _ => by decide⟩
      rw [fa_lt64] at h ⊢
      rw [fa_eq64] at h2
      omega
theorem cmp_gt (x y : Int64) : 0 < lg_cmp x y ↔ y < x := by
  unfold lg_cmp
  by_cases h : y < x
  · rw [if_pos h]; exact ⟨fun _ => h, fun _ => by decide⟩
  · rw [if_neg h]
    refine ⟨fun e => ?_, fun e => absurd e h⟩
    split at e <;> exact absurd e (by decide)
theorem cmp_eq (x y : Int64) : lg_cmp x y = 0 ↔ x = y := by
  unfold lg_cmp
  by_cases h : y < x
  · rw [if_pos h]; exact ⟨fun e => absurd e (by decide), fun e => by rw [fa_lt64] at h; rw [e] at h; omega⟩
  · rw [if_neg h]
    by_cases h2 : x = y
    · rw [if_pos h2]; exact ⟨fun _ => h2, fun _ => rfl⟩
    · rw [if_neg h2]; exact ⟨fun e => absurd e (by decide), fun e => absurd e h2⟩
theorem q_inL (w : Wd) (v lo hi : Int64) : CW mX7_in [.long v, .long lo, .long hi] w (some (.int (if lo ≤ v ∧ v ≤ hi then 1 else 0))) w := by
  refine cw_of (M := mX7_in) fx_X7_in (lv := [.long v, dmy, .long lo, dmy, .long hi, dmy]) rfl (Nat.le_of_ble_eq_true rfl) ?_
  refine e_lload_n dX7_in_0 rfl (pn 1 rfl ?_)
  refine e_lload_n dX7_in_1 rfl (pn 2 rfl ?_)
  refine e_lcmp dX7_in_2 (pn 3 rfl ?_)
  refine e_if_lt 17 dX7_in_3 (by decide) (fun c3 => ?_) (fun c3 => pn 6 rfl ?_)
  · have hc : ¬ lo ≤ v := fun e => by
      have h := (cmp_lt _ _).mp c3
      rw [fa_lt64] at h; rw [fa_le64] at e; omega
    refine e_ic (0) dX7_in_17 (by decide) (pn 18 rfl ?_)
    exact e_zret dX7_in_18 rfl (by decide) (by rw [if_neg (fun e => hc e.1)]) rfl
  · have hc : lo ≤ v := by
      have h : ¬ v < lo := fun e => c3 ((cmp_lt _ _).mpr e)
      rw [fa_lt64] at h; rw [fa_le64]; omega
    refine e_lload_n dX7_in_6 rfl (pn 7 rfl ?_)
    refine e_lload dX7_in_7 rfl (pn 9 rfl ?_)
    refine e_lcmp dX7_in_9 (pn 10 rfl ?_)
    refine e_if_gt 17 dX7_in_10 (by decide) (fun c10 => ?_) (fun c10 => pn 13 rfl ?_)
    · have hc2 : ¬ v ≤ hi := fun e => by
        have h := (cmp_gt _ _).mp c10
        rw [fa_lt64] at h; rw [fa_le64] at e; omega
      refine e_ic (0) dX7_in_17 (by decide) (pn 18 rfl ?_)
      exact e_zret dX7_in_18 rfl (by decide) (by rw [if_neg (fun e => hc2 e.2)]) rfl
    · have hc2 : v ≤ hi := by
        have h : ¬ hi < v := fun e => c10 ((cmp_gt _ _).mpr e)
        rw [fa_lt64] at h; rw [fa_le64]; omega
      refine e_ic (1) dX7_in_13 (by decide) (pn 14 rfl ?_)
      refine e_goto 18 dX7_in_14 (by decide) ?_
      exact e_zret dX7_in_18 rfl (by decide) (by rw [if_pos ⟨hc, hc2⟩]) rfl
theorem q_in (w : Wd) (v lo hi : Int32) {L H : Int64} (hL : lo.toInt64 = L) (hH : hi.toInt64 = H) : CW mX7_in [.long v.toInt64, .long L, .long H] w (some (.int (if lo ≤ v ∧ v ≤ hi then 1 else 0))) w := by
  have := q_inL w v.toInt64 L H
  subst hL; subst hH
  simp only [fa_wide_le] at this
  exact this
abbrev iR (s : Int32) : Int32 := if 0 ≤ s ∧ s ≤ 11 then 1 else 0
theorem q_isR (w : Wd) (s : Int32) : CW mX7_isRegister [.int s] w (some (.int (iR s))) w := by
  refine cw_of (M := mX7_isRegister) fx_X7_isRegister (lv := [.int s]) rfl (Nat.le_of_ble_eq_true rfl) ?_
  refine e_iload_n dX7_isRegister_0 rfl (pn 1 rfl ?_)
  refine e_i2l dX7_isRegister_1 (pn 2 rfl ?_)
  refine e_lc (0) dX7_isRegister_2 (by decide) (pn 3 rfl ?_)
  refine e_ldc2 dX7_isRegister_3 lk_X7_37 (pn 6 rfl ?_)
  refine c_S1 dX7_isRegister_6 ml_X7_39 ms_X7_in (by decide) (q_in w s 0 11 (by decide) (by decide)) rfl rfl (Nat.le_of_ble_eq_true rfl) (pn 9 rfl ?_)
  exact e_zret dX7_isRegister_9 rfl (by split <;> decide) rfl rfl
theorem q_puts {w : Wd} {D : Md} {mf0 lf0 : Nat → Int32} (h : mB w D mf0 lf0) {mf lf : Nat → Int32} {s n : Nat} (hs : s < 24) (hm : mf s = nI n) (hn : n < 30) (x : Int32) : CW mX7_puts [.ref 41, .int (nI s), .int x] (wA w mf lf) none (wA w (va_up mf s (nI (n + 1))) (va_up lf (30 * s + n) x)) := by
  have g := h.up mf lf
  have g2 := h.up mf (va_up lf (30 * s + n) x)
  refine cw_of (M := mX7_puts) fx_X7_puts (lv := [.ref 41, .int (nI s), .int x]) rfl (Nat.le_of_ble_eq_true rfl) ?_
  refine e_aload_n dX7_puts_0 rfl (pn 1 rfl ?_)
  refine e_get dX7_puts_1 fl_X7_17 g.1 rfl (pn 4 rfl ?_)
  refine e_bi (30) dX7_puts_4 (by decide) (pn 6 rfl ?_)
  refine e_iload_n dX7_puts_6 rfl (pn 7 rfl ?_)
  refine e_imul dX7_puts_7 (pn 8 rfl ?_)
  refine e_aload_n dX7_puts_8 rfl (pn 9 rfl ?_)
  refine e_get dX7_puts_9 fl_X7_13 g.1 rfl (pn 12 rfl ?_)
  refine e_iload_n dX7_puts_12 rfl (pn 13 rfl ?_)
  refine e_iald (s) dX7_puts_13 g.2.1 rfl hs (by omega) (pn 14 rfl ?_)
  refine e_iadd dX7_puts_14 (pn 15 rfl ?_)
  refine e_iload_n dX7_puts_15 rfl (pn 16 rfl ?_)
  refine e_iast (30 * s + n) dX7_puts_16 g.2.2 (by rw [hm, c30]) (by omega) (by omega) (pn 17 rfl ?_)
  rw [wA43]
  refine e_aload_n dX7_puts_17 rfl (pn 18 rfl ?_)
  refine e_get dX7_puts_18 fl_X7_13 g2.1 rfl (pn 21 rfl ?_)
  refine e_iload_n dX7_puts_21 rfl (pn 22 rfl ?_)
  refine e_dup2 dX7_puts_22 rfl rfl (pn 23 rfl ?_)
  refine e_iald (s) dX7_puts_23 g2.2.1 rfl hs (by omega) (pn 24 rfl ?_)
  refine e_ic (1) dX7_puts_24 (by decide) (pn 25 rfl ?_)
  refine e_iadd dX7_puts_25 (pn 26 rfl ?_)
  refine e_iast (s) dX7_puts_26 g2.2.1 rfl hs (by omega) (pn 27 rfl ?_)
  rw [wA42, hm, nI_1]
  exact e_vret dX7_puts_27 rfl rfl rfl
def cpF (lf : Nat → Int32) (s t n : Nat) : Nat → Int32 := fun x => if 30 * s ≤ x ∧ x < 30 * s + n then lf (30 * t + (x - 30 * s)) else lf x
theorem cpF_up (lf : Nat → Int32) (s t n : Nat) (hn : n < 30) : va_up (cpF lf s t n) (30 * s + n) (cpF lf s t n (30 * t + n)) = cpF lf s t (n + 1) := by
  funext x
  by_cases hx : x = 30 * s + n
  · subst hx
    rw [up_eq]
    unfold cpF
    rw [if_pos (show 30 * s ≤ 30 * s + n ∧ 30 * s + n < 30 * s + (n + 1) by omega), show 30 * s + n - 30 * s = n by omega]
    by_cases hst : 30 * s ≤ 30 * t + n ∧ 30 * t + n < 30 * s + n
    · have : s = t := by omega
      subst this
      omega
    · rw [if_neg hst]
  · rw [up_ne _ _ hx]
    unfold cpF
    by_cases h1 : 30 * s ≤ x ∧ x < 30 * s + n
    · rw [if_pos h1, if_pos (by omega)]
    · rw [if_neg h1, if_neg (by omega)]
theorem q_copies {w : Wd} {D : Md} {mf0 lf0 : Nat → Int32} (h : mB w D mf0 lf0) {mf lf : Nat → Int32} {s t : Nat} (hs : s < 24) (ht : t < 24) : CW mX7_copies [.ref 41, .int (nI s), .int (nI t)] (wA w mf lf) none (wA w (va_up mf s (mf t)) (cpF lf s t 30)) := by
  have loop : ∀ (c k : Nat), k + c = 30 → EW mX7_copies none 14 [.ref 41, .int (nI s), .int (nI t), .int (nI k)] [] (wA w (va_up mf s (mf t)) (cpF lf s t k)) none (wA w (va_up mf s (mf t)) (cpF lf s t 30)) := by
    intro c
    induction c with
    | zero =>
      intro k hk
      have e : k = 30 := by omega
      subst e
      refine e_iload_n dX7_copies_14 rfl (pn 15 rfl ?_)
      refine e_bi (30) dX7_copies_15 (by decide) (pn 17 rfl ?_)
      refine e_icmp_ge 48 dX7_copies_17 (by decide) (fun c17 => ?_) (fun c17 => pn 20 rfl ?_)
      · exact e_vret dX7_copies_48 rfl rfl rfl
      · exact absurd (by decide) c17
    | succ c ih =>
      intro k hk
      have g := h.up (va_up mf s (mf t)) (cpF lf s t k)
      refine e_iload_n dX7_copies_14 rfl (pn 15 rfl ?_)
      refine e_bi (30) dX7_copies_15 (by decide) (pn 17 rfl ?_)
      refine e_icmp_ge 48 dX7_copies_17 (by decide) (fun c17 => ?_) (fun c17 => pn 20 rfl ?_)
      · exact absurd c17 (nI_ge (b := 30) (by omega) (by omega))
      · refine e_aload_n dX7_copies_20 rfl (pn 21 rfl ?_)
        refine e_get dX7_copies_21 fl_X7_17 g.1 rfl (pn 24 rfl ?_)
        refine e_bi (30) dX7_copies_24 (by decide) (pn 26 rfl ?_)
        refine e_iload_n dX7_copies_26 rfl (pn 27 rfl ?_)
        refine e_imul dX7_copies_27 (pn 28 rfl ?_)
        refine e_iload_n dX7_copies_28 rfl (pn 29 rfl ?_)
        refine e_iadd dX7_copies_29 (pn 30 rfl ?_)
        refine e_aload_n dX7_copies_30 rfl (pn 31 rfl ?_)
        refine e_get dX7_copies_31 fl_X7_17 g.1 rfl (pn 34 rfl ?_)
        refine e_bi (30) dX7_copies_34 (by decide) (pn 36 rfl ?_)
        refine e_iload_n dX7_copies_36 rfl (pn 37 rfl ?_)
        refine e_imul dX7_copies_37 (pn 38 rfl ?_)
        refine e_iload_n dX7_copies_38 rfl (pn 39 rfl ?_)
        refine e_iadd dX7_copies_39 (pn 40 rfl ?_)
        refine e_iald (30 * t + k) dX7_copies_40 g.2.2 (c30 t k) (by omega) (by omega) (pn 41 rfl ?_)
        refine e_iast (30 * s + k) dX7_copies_41 g.2.2 (c30 s k) (by omega) (by omega) (pn 42 rfl ?_)
        rw [wA43, cpF_up lf s t k (by omega)]
        refine s_inc [_, _, _, _] (1) dX7_copies_42 (by decide) rfl (Nat.le_of_ble_eq_true rfl) rfl (pn 45 rfl ?_)
        refine e_goto 14 dX7_copies_45 (by decide) ?_
        rw [nI_1]
        exact ih (k + 1) (by omega)
  have g := h.up mf lf
  have e0 : cpF lf s t 0 = lf := by funext x; unfold cpF; rw [if_neg (by omega)]
  have L := loop 30 0 (by omega)
  rw [e0] at L
  refine cw_of (M := mX7_copies) fx_X7_copies (lv := [.ref 41, .int (nI s), .int (nI t), dmy]) rfl (Nat.le_of_ble_eq_true rfl) ?_
  refine e_aload_n dX7_copies_0 rfl (pn 1 rfl ?_)
  refine e_get dX7_copies_1 fl_X7_13 g.1 rfl (pn 4 rfl ?_)
  refine e_iload_n dX7_copies_4 rfl (pn 5 rfl ?_)
  refine e_aload_n dX7_copies_5 rfl (pn 6 rfl ?_)
  refine e_get dX7_copies_6 fl_X7_13 g.1 rfl (pn 9 rfl ?_)
  refine e_iload_n dX7_copies_9 rfl (pn 10 rfl ?_)
  refine e_iald (t) dX7_copies_10 g.2.1 rfl ht (by omega) (pn 11 rfl ?_)
  refine e_iast (s) dX7_copies_11 g.2.1 rfl hs (by omega) (pn 12 rfl ?_)
  rw [wA42]
  refine e_ic (0) dX7_copies_12 (by decide) (pn 13 rfl ?_)
  refine s_in [_, _, _, _] dX7_copies_13 (Nat.le_of_ble_eq_true rfl) rfl (pn 14 rfl ?_)
  exact L
/-- the letters of a word written at a register -/
def wrL (lf : Nat → Int32) (s : Nat) (v : List Nat) : Nat → Int32 := fun x => if 30 * s ≤ x ∧ x < 30 * s + v.length then nI (v.getD (x - 30 * s) 0) else lf x
theorem wrL_snoc (lf : Nat → Int32) (s : Nat) (v : List Nat) (a : Nat) : va_up (wrL lf s v) (30 * s + v.length) (nI a) = wrL lf s (v ++ [a]) := by
  funext x
  unfold wrL
  rw [List.length_append, List.length_singleton]
  by_cases hx : x = 30 * s + v.length
  · subst hx
    rw [up_eq, if_pos (by omega), show 30 * s + v.length - 30 * s = v.length by omega]
    simp [List.getD_eq_getElem?_getD]
  · rw [up_ne _ _ hx]
    by_cases h1 : 30 * s ≤ x ∧ x < 30 * s + v.length
    · rw [if_pos h1, if_pos (by omega)]
      simp only [List.getD_eq_getElem?_getD]
      rw [List.getElem?_append_left (by omega)]
    · rw [if_neg h1, if_neg (by omega)]
theorem wrL_nil (lf : Nat → Int32) (s : Nat) : wrL lf s [] = lf := by funext x; unfold wrL; rw [if_neg (by simp)]
/-- a word stands at a register -/
def wM (mf lf : Nat → Int32) (s : Nat) (u : List Nat) : Prop := mf s = nI u.length ∧ u.length ≤ 30 ∧ ∀ k, k < u.length → lf (30 * s + k) = nI (u.getD k 0)
theorem wM.wr (mf lf : Nat → Int32) {s : Nat} {v : List Nat} (hv : v.length ≤ 30) : wM (va_up mf s (nI v.length)) (wrL lf s v) s v := ⟨up_eq _ _ _, hv, fun k hk => by
  unfold wrL
  rw [if_pos (by omega), show 30 * s + k - 30 * s = k by omega]⟩
theorem wM.other {mf lf : Nat → Int32} {s t : Nat} {u v : List Nat} (h : wM mf lf t u) (hst : t ≠ s) (hv : v.length ≤ 30) (x : Int32) : wM (va_up mf s x) (wrL lf s v) t u := ⟨by rw [up_ne _ _ hst]; exact h.1, h.2.1, fun k hk => by
  have := h.2.1
  unfold wrL
  rw [if_neg (by omega)]
  exact h.2.2 k hk⟩
theorem wM.cp {mf lf : Nat → Int32} {s t : Nat} {u : List Nat} (h : wM mf lf t u) : wM (va_up mf s (mf t)) (cpF lf s t 30) s u := ⟨by rw [up_eq]; exact h.1, h.2.1, fun k hk => by
  have := h.2.1
  unfold cpF
  rw [if_pos (by omega), show 30 * s + k - 30 * s = k by omega]
  exact h.2.2 k hk⟩
theorem wM.cpo {mf lf : Nat → Int32} {s t r : Nat} {u : List Nat} (h : wM mf lf r u) (hrs : r ≠ s) (x : Int32) : wM (va_up mf s x) (cpF lf s t 30) r u := ⟨by rw [up_ne _ _ hrs]; exact h.1, h.2.1, fun k hk => by
  have := h.2.1
  unfold cpF
  rw [if_neg (by omega)]
  exact h.2.2 k hk⟩
/-- puts at the end of what was written -/
theorem q_put {w : Wd} {D : Md} {mf0 lf0 : Nat → Int32} (h : mB w D mf0 lf0) {mf lf : Nat → Int32} {s : Nat} (hs : s < 24) {v : List Nat} (hv : v.length < 30) (a : Nat) : CW mX7_puts [.ref 41, .int (nI s), .int (nI a)] (wA w (va_up mf s (nI v.length)) (wrL lf s v)) none (wA w (va_up mf s (nI (v ++ [a]).length)) (wrL lf s (v ++ [a]))) := by
  have P := q_puts h (mf := va_up mf s (nI v.length)) (lf := wrL lf s v) hs (up_eq _ _ _) hv (nI a)
  rw [wrL_snoc, show va_up (va_up mf s (nI v.length)) s (nI (v.length + 1)) = va_up mf s (nI (v ++ [a]).length) from by
    funext x
    by_cases hx : x = s
    · rw [hx, up_eq, up_eq, List.length_append]; rfl
    · rw [up_ne _ _ hx, up_ne _ _ hx, up_ne _ _ hx]] at P
  exact P
def edL (u : List Nat) (kind i l : Nat) : Nat → Nat → List Nat → List Nat
  | 0, _, acc => acc
  | c + 1, k, acc => edL u kind i l c (k + 1) (if k < u.length ∧ (¬ k = i ∨ kind = 1) then (if k = i ∧ 0 < kind then acc ++ [l] else acc) ++ [u.getD k 0] else (if k = i ∧ 0 < kind then acc ++ [l] else acc))
theorem q_edits {w : Wd} {D : Md} {mf0 lf0 : Nat → Int32} (h : mB w D mf0 lf0) {mf lf : Nat → Int32} {s t : Nat} (hs : s < 24) (ht : t < 24) (hst : t ≠ s) {u : List Nat} (hu : wM mf lf t u) (hu24 : u.length ≤ 24) {kind i l : Nat} (hk : kind ≤ 2) (hi : i < 2 ^ 30) : CW mX7_edits [.ref 41, .int (nI s), .int (nI t), .int (nI kind), .int (nI i), .int (nI l)] (wA w mf lf) none (wA w (va_up mf s (nI (edL u kind i l (u.length + 1) 0 []).length)) (wrL lf s (edL u kind i l (u.length + 1) 0 []))) := by
  have loop : ∀ (c k : Nat) (acc : List Nat), k + c = u.length + 1 → acc.length ≤ k + (if i < k then 1 else 0) → EW mX7_edits none 10 [.ref 41, .int (nI s), .int (nI t), .int (nI kind), .int (nI i), .int (nI l), .int (nI k)] [] (wA w (va_up mf s (nI acc.length)) (wrL lf s acc)) none (wA w (va_up mf s (nI (edL u kind i l c k acc).length)) (wrL lf s (edL u kind i l c k acc))) := by
    intro c
    induction c with
    | zero =>
      intro k acc hk2 hacc
      have g := h.up (va_up mf s (nI acc.length)) (wrL lf s acc)
      have hut := hu.other hst (v := acc) (by split at hacc <;> omega) (nI acc.length)
      refine e_iload dX7_edits_10 rfl (pn 12 rfl ?_)
      refine e_aload_n dX7_edits_12 rfl (pn 13 rfl ?_)
      refine e_get dX7_edits_13 fl_X7_13 g.1 rfl (pn 16 rfl ?_)
      refine e_iload_n dX7_edits_16 rfl (pn 17 rfl ?_)
      refine e_iald (t) dX7_edits_17 g.2.1 rfl ht (by omega) (pn 18 rfl ?_)
      rw [hut.1]
      refine e_icmp_gt 85 dX7_edits_18 (by decide) (fun c18 => ?_) (fun c18 => pn 21 rfl ?_)
      · exact e_vret dX7_edits_85 rfl rfl rfl
      · exact absurd (nI_lt (by omega) (by omega)) c18
    | succ c ih =>
      intro k acc hk2 hacc
      have hal : acc.length ≤ 25 := by split at hacc <;> omega
      have g := h.up (va_up mf s (nI acc.length)) (wrL lf s acc)
      have hut := hu.other hst (v := acc) (by omega) (nI acc.length)
      rw [edL]
      -- behind the first half
      have tail : ∀ a1 : List Nat, a1 = (if k = i ∧ 0 < kind then acc ++ [l] else acc) → EW mX7_edits none 39 [.ref 41, .int (nI s), .int (nI t), .int (nI kind), .int (nI i), .int (nI l), .int (nI k)] [] (wA w (va_up mf s (nI a1.length)) (wrL lf s a1)) none (wA w (va_up mf s (nI (edL u kind i l c (k + 1) (if k < u.length ∧ (¬ k = i ∨ kind = 1) then a1 ++ [u.getD k 0] else a1)).length)) (wrL lf s (edL u kind i l c (k + 1) (if k < u.length ∧ (¬ k = i ∨ kind = 1) then a1 ++ [u.getD k 0] else a1)))) := by
        intro a1 ha1
        have hl1 : a1.length ≤ acc.length + (if k = i then 1 else 0) := by
          rw [ha1]
          by_cases hc : k = i ∧ 0 < kind
          · rw [if_pos hc, if_pos hc.1]; simp
          · rw [if_neg hc]; omega
        have hl2 : a1.length ≤ k + (if i < k + 1 then 1 else 0) := by
          split at hl1 <;> split at hacc <;> split <;> omega
        have hl3 : a1.length ≤ 26 := by split at hl2 <;> omega
        have g1 := h.up (va_up mf s (nI a1.length)) (wrL lf s a1)
        have hut1 := hu.other hst (v := a1) (by omega) (nI a1.length)
        refine e_iload dX7_edits_39 rfl (pn 41 rfl ?_)
        refine e_aload_n dX7_edits_41 rfl (pn 42 rfl ?_)
        refine e_get dX7_edits_42 fl_X7_13 g1.1 rfl (pn 45 rfl ?_)
        refine e_iload_n dX7_edits_45 rfl (pn 46 rfl ?_)
        refine e_iald (t) dX7_edits_46 g1.2.1 rfl ht (by omega) (pn 47 rfl ?_)
        rw [hut1.1]
        refine e_icmp_ge 79 dX7_edits_47 (by decide) (fun c47 => ?_) (fun c47 => pn 50 rfl ?_)
        · have hc : ¬ k < u.length := fun e => nI_ge e (by omega) c47
          rw [if_neg (fun e => hc e.1)]
          refine s_inc [_, _, _, _, _, _, _] (1) dX7_edits_79 (by decide) rfl (Nat.le_of_ble_eq_true rfl) rfl (pn 82 rfl ?_)
          refine e_goto 10 dX7_edits_82 (by decide) ?_
          rw [nI_1]
          exact ih (k + 1) a1 (by omega) (by split at hl2 <;> split <;> omega)
        · have hc : k < u.length := Nat.lt_of_not_le (fun e => c47 (nI_le e (by omega)))
          have push : (¬ k = i ∨ kind = 1) → EW mX7_edits none 62 [.ref 41, .int (nI s), .int (nI t), .int (nI kind), .int (nI i), .int (nI l), .int (nI k)] [] (wA w (va_up mf s (nI a1.length)) (wrL lf s a1)) none (wA w (va_up mf s (nI (edL u kind i l c (k + 1) (if k < u.length ∧ (¬ k = i ∨ kind = 1) then a1 ++ [u.getD k 0] else a1)).length)) (wrL lf s (edL u kind i l c (k + 1) (if k < u.length ∧ (¬ k = i ∨ kind = 1) then a1 ++ [u.getD k 0] else a1)))) := by
            intro hor
            rw [if_pos ⟨hc, hor⟩]
            refine e_aload_n dX7_edits_62 rfl (pn 63 rfl ?_)
            refine e_iload_n dX7_edits_63 rfl (pn 64 rfl ?_)
            refine e_aload_n dX7_edits_64 rfl (pn 65 rfl ?_)
            refine e_get dX7_edits_65 fl_X7_17 g1.1 rfl (pn 68 rfl ?_)
            refine e_bi (30) dX7_edits_68 (by decide) (pn 70 rfl ?_)
            refine e_iload_n dX7_edits_70 rfl (pn 71 rfl ?_)
            refine e_imul dX7_edits_71 (pn 72 rfl ?_)
            refine e_iload dX7_edits_72 rfl (pn 74 rfl ?_)
            refine e_iadd dX7_edits_74 (pn 75 rfl ?_)
            refine e_iald (30 * t + k) dX7_edits_75 g1.2.2 (c30 t k) (by omega) (by omega) (pn 76 rfl ?_)
            rw [hut1.2.2 k hc]
            refine c_V0 dX7_edits_76 ml_X7_61 mv_X7_puts (by decide) (q_put h hs (v := a1) (by omega) (u.getD k 0)) g1.1 rfl rfl (Nat.le_of_ble_eq_true rfl) (pn 79 rfl ?_)
            refine s_inc [_, _, _, _, _, _, _] (1) dX7_edits_79 (by decide) rfl (Nat.le_of_ble_eq_true rfl) rfl (pn 82 rfl ?_)
            refine e_goto 10 dX7_edits_82 (by decide) ?_
            rw [nI_1]
            exact ih (k + 1) _ (by omega) (by rw [List.length_append, List.length_singleton]; split at hl2 <;> split <;> omega)
          refine e_iload dX7_edits_50 rfl (pn 52 rfl ?_)
          refine e_iload dX7_edits_52 rfl (pn 54 rfl ?_)
          refine e_icmp_ne 62 dX7_edits_54 (by decide) (fun c54 => ?_) (fun c54 => pn 57 rfl ?_)
          · have hne : ¬ k = i := fun e => c54 (by rw [e])
            exact push (Or.inl hne)
          · have he : k = i := (nI_eq (by omega) (by omega)).mp c54
            refine e_iload_n dX7_edits_57 rfl (pn 58 rfl ?_)
            refine e_ic (1) dX7_edits_58 (by decide) (pn 59 rfl ?_)
            refine e_icmp_ne 79 dX7_edits_59 (by decide) (fun c59 => ?_) (fun c59 => pn 62 rfl ?_)
            · have hk1 : ¬ kind = 1 := fun e => c59 (by rw [e]; rfl)
              rw [if_neg (fun e => e.2.elim (fun e => e he) hk1)]
              refine s_inc [_, _, _, _, _, _, _] (1) dX7_edits_79 (by decide) rfl (Nat.le_of_ble_eq_true rfl) rfl (pn 82 rfl ?_)
              refine e_goto 10 dX7_edits_82 (by decide) ?_
              rw [nI_1]
              exact ih (k + 1) a1 (by omega) (by split at hl2 <;> split <;> omega)
            · have hk1 : kind = 1 := (nI_eq (b := 1) (by omega) (by omega)).mp c59
              exact push (Or.inr hk1)
      refine e_iload dX7_edits_10 rfl (pn 12 rfl ?_)
      refine e_aload_n dX7_edits_12 rfl (pn 13 rfl ?_)
      refine e_get dX7_edits_13 fl_X7_13 g.1 rfl (pn 16 rfl ?_)
      refine e_iload_n dX7_edits_16 rfl (pn 17 rfl ?_)
      refine e_iald (t) dX7_edits_17 g.2.1 rfl ht (by omega) (pn 18 rfl ?_)
      rw [hut.1]
      refine e_icmp_gt 85 dX7_edits_18 (by decide) (fun c18 => ?_) (fun c18 => pn 21 rfl ?_)
      · exact absurd c18 (nI_nlt (by omega) (by omega))
      · refine e_iload dX7_edits_21 rfl (pn 23 rfl ?_)
        refine e_iload dX7_edits_23 rfl (pn 25 rfl ?_)
        refine e_icmp_ne 39 dX7_edits_25 (by decide) (fun c25 => ?_) (fun c25 => pn 28 rfl ?_)
        · have hne : ¬ k = i := fun e => c25 (by rw [e])
          have T := tail acc (by rw [if_neg (fun e => hne e.1)])
          rw [if_neg (show ¬ (k = i ∧ 0 < kind) from fun e => hne e.1)]
          exact T
        · have he : k = i := (nI_eq (by omega) (by omega)).mp c25
          refine e_iload_n dX7_edits_28 rfl (pn 29 rfl ?_)
          refine e_if_le 39 dX7_edits_29 (by decide) (fun c29 => ?_) (fun c29 => pn 32 rfl ?_)
          · have hk0 : ¬ 0 < kind := fun e => nI_nle e (by omega) c29
            have T := tail acc (by rw [if_neg (fun e => hk0 e.2)])
            rw [if_neg (show ¬ (k = i ∧ 0 < kind) from fun e => hk0 e.2)]
            exact T
          · have hk0 : 0 < kind := Nat.pos_of_ne_zero (fun e => c29 (by rw [e]; decide))
            refine e_aload_n dX7_edits_32 rfl (pn 33 rfl ?_)
            refine e_iload_n dX7_edits_33 rfl (pn 34 rfl ?_)
            refine e_iload dX7_edits_34 rfl (pn 36 rfl ?_)
            refine c_V0 dX7_edits_36 ml_X7_61 mv_X7_puts (by decide) (q_put h hs (v := acc) (by omega) l) g.1 rfl rfl (Nat.le_of_ble_eq_true rfl) (pn 39 rfl ?_)
            have T := tail (acc ++ [l]) (by rw [if_pos ⟨he, hk0⟩])
            rw [if_pos (show k = i ∧ 0 < kind from ⟨he, hk0⟩)]
            exact T
  have g := h.up mf lf
  have L := loop (u.length + 1) 0 [] (by omega) (by simp)
  rw [wrL_nil] at L
  refine cw_of (M := mX7_edits) fx_X7_edits (lv := [.ref 41, .int (nI s), .int (nI t), .int (nI kind), .int (nI i), .int (nI l), dmy]) rfl (Nat.le_of_ble_eq_true rfl) ?_
  refine e_aload_n dX7_edits_0 rfl (pn 1 rfl ?_)
  refine e_get dX7_edits_1 fl_X7_13 g.1 rfl (pn 4 rfl ?_)
  refine e_iload_n dX7_edits_4 rfl (pn 5 rfl ?_)
  refine e_ic (0) dX7_edits_5 (by decide) (pn 6 rfl ?_)
  refine e_iast (s) dX7_edits_6 g.2.1 rfl hs (by omega) (pn 7 rfl ?_)
  rw [wA42]
  refine e_ic (0) dX7_edits_7 (by decide) (pn 8 rfl ?_)
  refine s_i [_, _, _, _, _, _, _] dX7_edits_8 (Nat.le_of_ble_eq_true rfl) rfl (pn 10 rfl ?_)
  exact L
