/-! LostLettersModel: meets, looks -/
abbrev dN (D : Md) (x : Int32) : Md := (D.1, D.2.1, D.2.2.1, D.2.2.2.1, D.2.2.2.2.1, D.2.2.2.2.2.1, D.2.2.2.2.2.2.1, D.2.2.2.2.2.2.2.1, D.2.2.2.2.2.2.2.2.1, D.2.2.2.2.2.2.2.2.2.1, x)
abbrev KS : Type := (Nat → Int32) × (Nat → Int32) × (Nat → Int32) × List (List Nat)
abbrev wK (w : Wd) (D : Md) (S : KS) : Wd := ((wA w S.1 S.2.1).set 45 (aI 4800 S.2.2.1)).set 41 (mdF (dN D (nI S.2.2.2.length)))
def kH (w : Wd) : Prop := (∃ D mf lf, mB w D mf lf) ∧ ∃ nl, w[45]? = some (aI 4800 nl)
theorem kH.up {w : Wd} (h : kH w) (D : Md) (S : KS) : mB (wK w D S) (dN D (nI S.2.2.2.length)) S.1 S.2.1 ∧ (wK w D S)[45]? = some (aI 4800 S.2.2.1) := by
  obtain ⟨⟨D0, mf, lf, h1, h2, h3⟩, nl, h4⟩ := h
  exact ⟨⟨gse (gne (by decide) (gne (by decide) (gne (by decide) h1))), gne (by decide) (gne (by decide) (gne (by decide) (gse h2))), gne (by decide) (gne (by decide) (gse (gne (by decide) h3)))⟩, gne (by decide) (gse (gne (by decide) (gne (by decide) h4)))⟩
theorem wK45 (w : Wd) (D : Md) (S : KS) (nl : Nat → Int32) : (wK w D S).set 45 (aI 4800 nl) = wK w D (S.1, S.2.1, nl, S.2.2.2) := by
  show ((((w.set 42 _).set 43 _).set 45 _).set 41 _).set 45 _ = _
  rw [List.set_comm _ _ (show 41 ≠ 45 by decide), List.set_set]
theorem wKA (w : Wd) (D : Md) (S : KS) (mf lf : Nat → Int32) : wA (wK w D S) mf lf = wK w D (mf, lf, S.2.2) := by
  show (((((w.set 42 _).set 43 _).set 45 _).set 41 _).set 42 _).set 43 _ = _
  rw [List.set_comm _ _ (show 41 ≠ 42 by decide), List.set_comm _ _ (show 45 ≠ 42 by decide), List.set_comm _ _ (show 43 ≠ 42 by decide), List.set_set, List.set_comm _ _ (show 41 ≠ 43 by decide), List.set_comm _ _ (show 45 ≠ 43 by decide), List.set_set]
theorem wK41 (w : Wd) (D : Md) (S : KS) (ws : List (List Nat)) : (wK w D S).set 41 (mdF (dN D (nI ws.length))) = wK w D (S.1, S.2.1, S.2.2.1, ws) := by
  show ((((w.set 42 _).set 43 _).set 45 _).set 41 _).set 41 _ = _
  rw [List.set_set]
def nW (n : Nat) (nl : Nat → Int32) (ws : List (List Nat)) : Prop := ∀ k, k < ws.length → (ws.getD k []).length = n ∧ okL (ws.getD k []) ∧ ∀ i, i < n → nl (16 * k + i) = nI ((ws.getD k []).getD i 0)
def wrN (nl : Nat → Int32) (k : Nat) (v : List Nat) (i : Nat) : Nat → Int32 := fun x => if 16 * k ≤ x ∧ x < 16 * k + i then nI (v.getD (x - 16 * k) 0) else nl x
theorem wrN_up (nl : Nat → Int32) (k : Nat) (v : List Nat) (i : Nat) : va_up (wrN nl k v i) (16 * k + i) (nI (v.getD i 0)) = wrN nl k v (i + 1) := by
  funext x
  by_cases hx : x = 16 * k + i
  · subst hx
    rw [up_eq]
    unfold wrN
    rw [if_pos (by omega), show 16 * k + i - 16 * k = i by omega]
  · rw [up_ne _ _ hx]
    unfold wrN
    by_cases h1 : 16 * k ≤ x ∧ x < 16 * k + i
    · rw [if_pos h1, if_pos (by omega)]
    · rw [if_neg h1, if_neg (by omega)]
theorem wrN_0 (nl : Nat → Int32) (k : Nat) (v : List Nat) : wrN nl k v 0 = nl := by funext x; unfold wrN; rw [if_neg (by omega)]
theorem nW_snoc {n : Nat} {nl : Nat → Int32} {ws : List (List Nat)} (h : nW n nl ws) (hn : n ≤ 16) {v : List Nat} (hv : v.length = n) (ok : okL v) : nW n (wrN nl ws.length v n) (ws ++ [v]) := by
  intro k hk
  rw [List.length_append, List.length_singleton] at hk
  by_cases hk2 : k < ws.length
  · have e : (ws ++ [v]).getD k [] = ws.getD k [] := by simp only [List.getD_eq_getElem?_getD]; rw [List.getElem?_append_left hk2]
    rw [e]
    obtain ⟨a1, a2, a3⟩ := h k hk2
    refine ⟨a1, a2, fun i hi => ?_⟩
    unfold wrN
    rw [if_neg (by omega)]
    exact a3 i hi
  · have ek : k = ws.length := by omega
    subst ek
    have e : (ws ++ [v]).getD ws.length [] = v := by simp [List.getD_eq_getElem?_getD]
    rw [e]
    refine ⟨hv, ok, fun i hi => ?_⟩
    unfold wrN
    rw [if_pos (by omega), show 16 * ws.length + i - 16 * ws.length = i by omega]
def smB (nl lf : Nat → Int32) (k : Nat) : Nat → Bool
  | 0 => true
  | i + 1 => smB nl lf k i && decide (nl (16 * k + i) = lf (630 + i))
theorem smB_iff (nl lf : Nat → Int32) (k : Nat) : ∀ n, smB nl lf k n = true ↔ ∀ i, i < n → nl (16 * k + i) = lf (630 + i)
  | 0 => ⟨fun _ i hi => by omega, fun _ => rfl⟩
  | n + 1 => by
    rw [smB, Bool.and_eq_true, smB_iff nl lf k n, decide_eq_true_iff]
    refine ⟨fun h i hi => ?_, fun h => ⟨fun i hi => h i (by omega), h n (by omega)⟩⟩
    by_cases e : i = n
    · rw [e]; exact h.2
    · exact h.1 i (by omega)
theorem list_ext {u v : List Nat} (h : u.length = v.length) (h2 : ∀ i, i < u.length → u.getD i 0 = v.getD i 0) : u = v := by
  apply List.ext_getElem h
  intro i h3 h4
  have := h2 i h3
  simpa [List.getD_eq_getElem?_getD, h3, h4] using this
theorem smB_mem {n : Nat} {nl lf mf : Nat → Int32} {ws : List (List Nat)} (h : nW n nl ws) {v : List Nat} (hv : wM mf lf 21 v) (ok : okL v) (hl : v.length = n) {k : Nat} (hk : k < ws.length) : smB nl lf k n = true ↔ ws.getD k [] = v := by
  rw [smB_iff]
  obtain ⟨a1, a2, a3⟩ := h k hk
  refine ⟨fun H => list_ext (by omega) (fun i hi => ?_), fun e i hi => ?_⟩
  · have := H i (by omega)
    rw [a3 i (by omega), show 630 + i = 30 * 21 + i by omega, hv.2.2 i (by omega)] at this
    exact (nI_eq (by have := okL_get a2 i; omega) (by have := okL_get ok i; omega)).mp this
  · rw [a3 i hi, show 630 + i = 30 * 21 + i by omega, hv.2.2 i (by omega), e]
theorem q_meets0 {w : Wd} (h : kH w) {D : Md} (hD : cD D) {S : KS} {v : List Nat} (hv : wM S.1 S.2.1 21 v) (ok : okL v) (hno : ¬ isM D v) : CW mX7_meets [.ref 41] (wK w D S) none (wK w D S) := by
  obtain ⟨g, g5⟩ := h.up D S
  have C := q_isCode g (D := dN D (nI S.2.2.2.length)) hD (s := 21) (by decide) hv ok
  rw [if_neg (show ¬ isM (dN D (nI S.2.2.2.length)) v from hno)] at C
  refine cw_of (M := mX7_meets) fx_X7_meets (lv := [.ref 41, dmy, dmy, dmy]) rfl (Nat.le_of_ble_eq_true rfl) ?_
  refine e_aload_n dX7_meets_0 rfl (pn 1 rfl ?_)
  refine e_bi (21) dX7_meets_1 (by decide) (pn 3 rfl ?_)
  refine c_V1 dX7_meets_3 ml_X7_107 mv_X7_isCode (by decide) C g.1 rfl rfl (Nat.le_of_ble_eq_true rfl) (pn 6 rfl ?_)
  refine e_if_ne 10 dX7_meets_6 (by decide) (fun c6 => ?_) (fun c6 => pn 9 rfl ?_)
  · exact absurd rfl c6
  · exact e_vret dX7_meets_9 rfl rfl rfl
theorem q_meets1 {w : Wd} (h : kH w) {D : Md} (hD : cD D) {S : KS} {v : List Nat} (hv : wM S.1 S.2.1 21 v) (ok : okL v) (hm : isM D v) (hW : nW D.2.1 S.2.2.1 S.2.2.2) (h300 : S.2.2.2.length < 299) : CW mX7_meets [.ref 41] (wK w D S) none (if v ∈ S.2.2.2 then wK w D S else wK w D (S.1, S.2.1, wrN S.2.2.1 S.2.2.2.length v D.2.1, S.2.2.2 ++ [v])) := by
  obtain ⟨g, g5⟩ := h.up D S
  have C := q_isCode g (D := dN D (nI S.2.2.2.length)) hD (s := 21) (by decide) hv ok
  rw [if_pos (show isM (dN D (nI S.2.2.2.length)) v from hm)] at C
  have hl : v.length = D.2.1 := hm.1
  obtain ⟨hq, hn, -, -⟩ := hD
  -- the comparison with one that stands there
  have same : ∀ {r : Option Value} {w' : Wd} (k : Nat), k < S.2.2.2.length → ∀ (c i : Nat), i + c = D.2.1 → EW mX7_meets none 72 [.ref 41, .int (nI k), .int (bI (smB S.2.2.1 S.2.1 k D.2.1)), dmy] [] (wK w D S) r w' → EW mX7_meets none 24 [.ref 41, .int (nI k), .int (bI (smB S.2.2.1 S.2.1 k i)), .int (nI i)] [] (wK w D S) r w' := by
    intro r w' k hk c
    induction c with
    | zero =>
      intro i hi K
      have e : i = D.2.1 := by omega
      subst e
      refine e_iload_n dX7_meets_24 rfl (pn 25 rfl ?_)
      refine e_aload_n dX7_meets_25 rfl (pn 26 rfl ?_)
      refine e_get dX7_meets_26 fl_X7_47 g.1 rfl (pn 29 rfl ?_)
      refine e_icmp_ge 72 dX7_meets_29 (by decide) (fun c29 => ?_) (fun c29 => pn 32 rfl ?_)
      · exact e_dr [_, _, _, _] 3 rfl K
      · exact absurd (nI_le (Nat.le_refl D.2.1) (by omega)) c29
    | succ c ih =>
      intro i hi K
      have K2 := ih (i + 1) (by omega) K
      rw [smB] at K2
      refine e_iload_n dX7_meets_24 rfl (pn 25 rfl ?_)
      refine e_aload_n dX7_meets_25 rfl (pn 26 rfl ?_)
      refine e_get dX7_meets_26 fl_X7_47 g.1 rfl (pn 29 rfl ?_)
      refine e_icmp_ge 72 dX7_meets_29 (by decide) (fun c29 => ?_) (fun c29 => pn 32 rfl ?_)
      · exact absurd c29 (nI_ge (a := i) (b := D.2.1) (by omega) (by omega))
      · refine e_iload_n dX7_meets_32 rfl (pn 33 rfl ?_)
        cases hb : smB S.2.2.1 S.2.1 k i with
        | false =>
          rw [hb, Bool.false_and] at K2
          refine e_if_eq 64 dX7_meets_33 (by decide) (fun c33 => ?_) (fun c33 => pn 36 rfl ?_)
          · refine e_ic (0) dX7_meets_64 (by decide) (pn 65 rfl ?_)
            refine s_in [_, _, _, _] dX7_meets_65 (Nat.le_of_ble_eq_true rfl) rfl (pn 66 rfl ?_)
            refine s_inc [_, _, _, _] (1) dX7_meets_66 (by decide) rfl (Nat.le_of_ble_eq_true rfl) rfl (pn 69 rfl ?_)
            refine e_goto 24 dX7_meets_69 (by decide) ?_
            rw [nI_1]
            exact K2
          · exact absurd rfl c33
        | true =>
          rw [hb, Bool.true_and] at K2
          refine e_if_eq 64 dX7_meets_33 (by decide) (fun c33 => ?_) (fun c33 => pn 36 rfl ?_)
          · exact absurd c33 (by decide)
          · refine e_aload_n dX7_meets_36 rfl (pn 37 rfl ?_)
            refine e_get dX7_meets_37 fl_X7_27 g.1 rfl (pn 40 rfl ?_)
            refine e_bi (16) dX7_meets_40 (by decide) (pn 42 rfl ?_)
            refine e_iload_n dX7_meets_42 rfl (pn 43 rfl ?_)
            refine e_imul dX7_meets_43 (pn 44 rfl ?_)
            refine e_iload_n dX7_meets_44 rfl (pn 45 rfl ?_)
            refine e_iadd dX7_meets_45 (pn 46 rfl ?_)
            refine e_iald (16 * k + i) dX7_meets_46 g5 (by rw [show (16 : Int32) = nI 16 from rfl, pk_mul, nI_add]) (by omega) (by omega) (pn 47 rfl ?_)
            refine e_aload_n dX7_meets_47 rfl (pn 48 rfl ?_)
            refine e_get dX7_meets_48 fl_X7_17 g.1 rfl (pn 51 rfl ?_)
            refine e_si (630) dX7_meets_51 (by decide) (pn 54 rfl ?_)
            refine e_iload_n dX7_meets_54 rfl (pn 55 rfl ?_)
            refine e_iadd dX7_meets_55 (pn 56 rfl ?_)
            refine e_iald (630 + i) dX7_meets_56 g.2.2 (nI_add 630 i) (by omega) (by omega) (pn 57 rfl ?_)
            refine e_icmp_ne 64 dX7_meets_57 (by decide) (fun c57 => ?_) (fun c57 => pn 60 rfl ?_)
            · rw [decide_eq_false c57] at K2
              refine e_ic (0) dX7_meets_64 (by decide) (pn 65 rfl ?_)
              refine s_in [_, _, _, _] dX7_meets_65 (Nat.le_of_ble_eq_true rfl) rfl (pn 66 rfl ?_)
              refine s_inc [_, _, _, _] (1) dX7_meets_66 (by decide) rfl (Nat.le_of_ble_eq_true rfl) rfl (pn 69 rfl ?_)
              refine e_goto 24 dX7_meets_69 (by decide) ?_
              rw [nI_1]
              exact K2
            · rw [decide_eq_true c57] at K2
              refine e_ic (1) dX7_meets_60 (by decide) (pn 61 rfl ?_)
              refine e_goto 65 dX7_meets_61 (by decide) ?_
              refine s_in [_, _, _, _] dX7_meets_65 (Nat.le_of_ble_eq_true rfl) rfl (pn 66 rfl ?_)
              refine s_inc [_, _, _, _] (1) dX7_meets_66 (by decide) rfl (Nat.le_of_ble_eq_true rfl) rfl (pn 69 rfl ?_)
              refine e_goto 24 dX7_meets_69 (by decide) ?_
              rw [nI_1]
              exact K2
  -- what is put behind
  have put : ∀ {r : Option Value} {w' : Wd}, EW mX7_meets none 123 [.ref 41, dmy, dmy, dmy] [] (wK w D (S.1, S.2.1, wrN S.2.2.1 S.2.2.2.length v D.2.1, S.2.2.2)) r w' → ∀ (c i : Nat), i + c = D.2.1 → EW mX7_meets none 85 [.ref 41, .int (nI i), dmy, dmy] [] (wK w D (S.1, S.2.1, wrN S.2.2.1 S.2.2.2.length v i, S.2.2.2)) r w' := by
    intro r w' K c
    induction c with
    | zero =>
      intro i hi
      have e : i = D.2.1 := by omega
      subst e
      obtain ⟨k, k5⟩ := h.up D (S.1, S.2.1, wrN S.2.2.1 S.2.2.2.length v D.2.1, S.2.2.2)
      refine e_iload_n dX7_meets_85 rfl (pn 86 rfl ?_)
      refine e_aload_n dX7_meets_86 rfl (pn 87 rfl ?_)
      refine e_get dX7_meets_87 fl_X7_47 k.1 rfl (pn 90 rfl ?_)
      refine e_icmp_ge 123 dX7_meets_90 (by decide) (fun c90 => ?_) (fun c90 => pn 93 rfl ?_)
      · exact e_dr [_, _, _, _] 1 rfl K
      · exact absurd (nI_le (Nat.le_refl D.2.1) (by omega)) c90
    | succ c ih =>
      intro i hi
      obtain ⟨k, k5⟩ := h.up D (S.1, S.2.1, wrN S.2.2.1 S.2.2.2.length v i, S.2.2.2)
      have x1 : S.2.1 (630 + i) = nI (v.getD i 0) := by rw [show 630 + i = 30 * 21 + i by omega]; exact hv.2.2 i (by omega)
      refine e_iload_n dX7_meets_85 rfl (pn 86 rfl ?_)
      refine e_aload_n dX7_meets_86 rfl (pn 87 rfl ?_)
      refine e_get dX7_meets_87 fl_X7_47 k.1 rfl (pn 90 rfl ?_)
      refine e_icmp_ge 123 dX7_meets_90 (by decide) (fun c90 => ?_) (fun c90 => pn 93 rfl ?_)
      · exact absurd c90 (nI_ge (a := i) (b := D.2.1) (by omega) (by omega))
      · refine e_aload_n dX7_meets_93 rfl (pn 94 rfl ?_)
        refine e_get dX7_meets_94 fl_X7_27 k.1 rfl (pn 97 rfl ?_)
        refine e_bi (16) dX7_meets_97 (by decide) (pn 99 rfl ?_)
        refine e_aload_n dX7_meets_99 rfl (pn 100 rfl ?_)
        refine e_get dX7_meets_100 fl_X7_110 k.1 rfl (pn 103 rfl ?_)
        refine e_imul dX7_meets_103 (pn 104 rfl ?_)
        refine e_iload_n dX7_meets_104 rfl (pn 105 rfl ?_)
        refine e_iadd dX7_meets_105 (pn 106 rfl ?_)
        refine e_aload_n dX7_meets_106 rfl (pn 107 rfl ?_)
        refine e_get dX7_meets_107 fl_X7_17 k.1 rfl (pn 110 rfl ?_)
        refine e_si (630) dX7_meets_110 (by decide) (pn 113 rfl ?_)
        refine e_iload_n dX7_meets_113 rfl (pn 114 rfl ?_)
        refine e_iadd dX7_meets_114 (pn 115 rfl ?_)
        refine e_iald (630 + i) dX7_meets_115 k.2.2 (nI_add 630 i) (by omega) (by omega) (pn 116 rfl ?_)
        rw [x1]
        refine e_iast (16 * S.2.2.2.length + i) dX7_meets_116 k5 (by rw [show (16 : Int32) = nI 16 from rfl, pk_mul, nI_add]) (by omega) (by omega) (pn 117 rfl ?_)
        rw [wK45]
        simp only [wrN_up]
        refine s_inc [_, _, _, _] (1) dX7_meets_117 (by decide) rfl (Nat.le_of_ble_eq_true rfl) rfl (pn 120 rfl ?_)
        refine e_goto 85 dX7_meets_120 (by decide) ?_
        rw [nI_1]
        exact ih (i + 1) (by omega)
  have app : v ∉ S.2.2.2 → EW mX7_meets none 83 [.ref 41, dmy, dmy, dmy] [] (wK w D S) none (if v ∈ S.2.2.2 then wK w D S else wK w D (S.1, S.2.1, wrN S.2.2.1 S.2.2.2.length v D.2.1, S.2.2.2 ++ [v])) := by
    intro hni
    rw [if_neg hni]
    refine e_ic (0) dX7_meets_83 (by decide) (pn 84 rfl ?_)
    refine s_in [_, _, _, _] dX7_meets_84 (Nat.le_of_ble_eq_true rfl) rfl (pn 85 rfl ?_)
    have P := put (r := none) (w' := wK w D (S.1, S.2.1, wrN S.2.2.1 S.2.2.2.length v D.2.1, S.2.2.2 ++ [v])) ?_ D.2.1 0 (by omega)
    · rw [wrN_0] at P
      exact P
    · obtain ⟨k, k5⟩ := h.up D (S.1, S.2.1, wrN S.2.2.1 S.2.2.2.length v D.2.1, S.2.2.2)
      refine e_aload_n dX7_meets_123 rfl (pn 124 rfl ?_)
      refine e_dup dX7_meets_124 rfl (pn 125 rfl ?_)
      refine e_get dX7_meets_125 fl_X7_110 k.1 rfl (pn 128 rfl ?_)
      refine e_ic (1) dX7_meets_128 (by decide) (pn 129 rfl ?_)
      refine e_iadd dX7_meets_129 (pn 130 rfl ?_)
      refine e_put dX7_meets_130 fp_X7_110 k.1 rfl (Nat.le_of_ble_eq_true rfl) (pn 133 rfl ?_)
      exact e_vret dX7_meets_133 rfl rfl (by
        rw [← wK41 w D (S.1, S.2.1, wrN S.2.2.1 S.2.2.2.length v D.2.1, S.2.2.2) (S.2.2.2 ++ [v])]
        rw [List.length_append, List.length_singleton, ← nI_1]; rfl)
  have search : ∀ (c k : Nat), k + c = S.2.2.2.length → (∀ j, j < k → S.2.2.2.getD j [] ≠ v) → EW mX7_meets none 12 [.ref 41, .int (nI k), dmy, dmy] [] (wK w D S) none (if v ∈ S.2.2.2 then wK w D S else wK w D (S.1, S.2.1, wrN S.2.2.1 S.2.2.2.length v D.2.1, S.2.2.2 ++ [v])) := by
    intro c
    induction c with
    | zero =>
      intro k hk hno
      refine e_iload_n dX7_meets_12 rfl (pn 13 rfl ?_)
      refine e_aload_n dX7_meets_13 rfl (pn 14 rfl ?_)
      refine e_get dX7_meets_14 fl_X7_110 g.1 rfl (pn 17 rfl ?_)
      refine e_icmp_ge 83 dX7_meets_17 (by decide) (fun c17 => ?_) (fun c17 => pn 20 rfl ?_)
      · refine e_dr [_, _, _, _] 1 rfl (app (fun hmem => ?_))
        obtain ⟨j, hj⟩ := List.getElem?_of_mem hmem
        have hj2 := (List.getElem?_eq_some_iff.mp hj).1
        exact hno j (by omega) (by rw [List.getD_eq_getElem?_getD, hj]; rfl)
      · exact absurd (nI_le (show S.2.2.2.length ≤ k by omega) (by omega)) c17
    | succ c ih =>
      intro k hk hno
      have sm := smB_mem hW hv ok hl (k := k) (by omega)
      refine e_iload_n dX7_meets_12 rfl (pn 13 rfl ?_)
      refine e_aload_n dX7_meets_13 rfl (pn 14 rfl ?_)
      refine e_get dX7_meets_14 fl_X7_110 g.1 rfl (pn 17 rfl ?_)
      refine e_icmp_ge 83 dX7_meets_17 (by decide) (fun c17 => ?_) (fun c17 => pn 20 rfl ?_)
      · exact absurd c17 (nI_ge (a := k) (b := S.2.2.2.length) (by omega) (by omega))
      · refine e_ic (1) dX7_meets_20 (by decide) (pn 21 rfl ?_)
        refine s_in [_, _, _, _] dX7_meets_21 (Nat.le_of_ble_eq_true rfl) rfl (pn 22 rfl ?_)
        refine e_ic (0) dX7_meets_22 (by decide) (pn 23 rfl ?_)
        refine s_in [_, _, _, _] dX7_meets_23 (Nat.le_of_ble_eq_true rfl) rfl (pn 24 rfl ?_)
        refine same k (by omega) D.2.1 0 (by omega) ?_
        refine e_iload_n dX7_meets_72 rfl (pn 73 rfl ?_)
        cases hb : smB S.2.2.1 S.2.1 k D.2.1 with
        | true =>
          have he := sm.mp hb
          have hmem : v ∈ S.2.2.2 := by
            rw [← he, List.getD_eq_getElem?_getD, List.getElem?_eq_getElem (show k < S.2.2.2.length by omega)]
            exact List.getElem_mem _
          refine e_if_eq 77 dX7_meets_73 (by decide) (fun c73 => ?_) (fun c73 => pn 76 rfl ?_)
          · exact absurd c73 (by decide)
          · exact e_vret dX7_meets_76 rfl rfl (by rw [if_pos hmem])
        | false =>
          refine e_if_eq 77 dX7_meets_73 (by decide) (fun c73 => ?_) (fun c73 => pn 76 rfl ?_)
          · refine s_inc [_, _, _, _] (1) dX7_meets_77 (by decide) rfl (Nat.le_of_ble_eq_true rfl) rfl (pn 80 rfl ?_)
            refine e_goto 12 dX7_meets_80 (by decide) ?_
            rw [nI_1]
            refine e_dr [_, _, _, _] 2 rfl (ih (k + 1) (by omega) (fun j hj e => ?_))
            by_cases ej : j = k
            · rw [ej] at e
              rw [sm.mpr e] at hb
              cases hb
            · exact hno j (by omega) e
          · exact absurd rfl c73
  refine cw_of (M := mX7_meets) fx_X7_meets (lv := [.ref 41, dmy, dmy, dmy]) rfl (Nat.le_of_ble_eq_true rfl) ?_
  refine e_aload_n dX7_meets_0 rfl (pn 1 rfl ?_)
  refine e_bi (21) dX7_meets_1 (by decide) (pn 3 rfl ?_)
  refine c_V1 dX7_meets_3 ml_X7_107 mv_X7_isCode (by decide) C g.1 rfl rfl (Nat.le_of_ble_eq_true rfl) (pn 6 rfl ?_)
  refine e_if_ne 10 dX7_meets_6 (by decide) (fun c6 => ?_) (fun c6 => pn 9 rfl ?_)
  · refine e_ic (0) dX7_meets_10 (by decide) (pn 11 rfl ?_)
    refine s_in [_, _, _, _] dX7_meets_11 (Nat.le_of_ble_eq_true rfl) rfl (pn 12 rfl ?_)
    exact search S.2.2.2.length 0 (by omega) (fun j hj => by omega)
  · exact absurd c6 (by decide)
/-- one candidate: written at 21, and met -/
def lkM (D : Md) (v : List Nat) (S : KS) : KS := if isM D v ∧ v ∉ S.2.2.2 then (S.1, S.2.1, wrN S.2.2.1 S.2.2.2.length v D.2.1, S.2.2.2 ++ [v]) else S
theorem q_meets {w : Wd} (h : kH w) {D : Md} (hD : cD D) {S : KS} {v : List Nat} (hv : wM S.1 S.2.1 21 v) (ok : okL v) (hW : nW D.2.1 S.2.2.1 S.2.2.2) (h300 : S.2.2.2.length < 299) : CW mX7_meets [.ref 41] (wK w D S) none (wK w D (lkM D v S)) ∧ nW D.2.1 (lkM D v S).2.2.1 (lkM D v S).2.2.2 ∧ (lkM D v S).2.2.2.length ≤ S.2.2.2.length + 1 ∧ (lkM D v S).1 = S.1 ∧ (lkM D v S).2.1 = S.2.1 := by
  unfold lkM
  by_cases hm : isM D v
  · have M1 := q_meets1 h hD hv ok hm hW h300
    by_cases hmem : v ∈ S.2.2.2
    · rw [if_pos hmem] at M1
      rw [if_neg (fun e => e.2 hmem)]
      exact ⟨M1, hW, by omega, rfl, rfl⟩
    · rw [if_neg hmem] at M1
      rw [if_pos ⟨hm, hmem⟩]
      exact ⟨M1, nW_snoc hW hD.2.1.2 hm.1 ok, by simp, rfl, rfl⟩
  · rw [if_neg (fun e => hm e.1)]
    exact ⟨q_meets0 h hD hv ok hm, hW, by omega, rfl, rfl⟩
def lkW (v : List Nat) (S : KS) : KS := (va_up S.1 21 (nI v.length), wrL S.2.1 21 v, S.2.2)
def lkL (D : Md) (u : List Nat) (kind i : Nat) : Nat → Nat → KS → KS
  | 0, _, S => S
  | c + 1, l, S => lkL D u kind i c (l + 1) (lkM D (edW u kind i l) (lkW (edW u kind i l) S))
def lkI (D : Md) (u : List Nat) (kind : Nat) : Nat → Nat → KS → KS
  | 0, _, S => S
  | c + 1, i, S => lkI D u kind c (i + 1) (lkL D u kind i (if kind = 0 then 1 else D.1) 0 S)
def lkK (D : Md) (u : List Nat) : Nat → Nat → KS → KS
  | 0, _, S => S
  | c + 1, kind, S => lkK D u c (kind + 1) (lkI D u kind (if kind = 1 then u.length + 1 else u.length) 0 S)
def okK (D : Md) (t : Nat) (u : List Nat) (m : Nat) (S : KS) : Prop := wM S.1 S.2.1 t u ∧ nW D.2.1 S.2.2.1 S.2.2.2 ∧ S.2.2.2.length ≤ m
theorem q_lkStep {w : Wd} (h : kH w) {D : Md} (hD : cD D) {t : Nat} (ht : t < 12) {u : List Nat} (oku : okW u) {kind i l : Nat} (hk : kind ≤ 2) (hi : if kind = 1 then i ≤ u.length else i < u.length) (hl : l < 4) {m : Nat} (hm : m < 299) {S : KS} (hS : okK D t u m S) {r : Option Value} {w' : Wd}
    (K : okK D t u (m + 1) (lkM D (edW u kind i l) (lkW (edW u kind i l) S)) → EW mX7_looks none 86 [.ref 41, .int (nI t), .int (nI kind), .int (nI i), .int (nI l)] [] (wK w D (lkM D (edW u kind i l) (lkW (edW u kind i l) S))) r w') : EW mX7_looks none 71 [.ref 41, .int (nI t), .int (nI kind), .int (nI i), .int (nI l)] [] (wK w D S) r w' := by
  obtain ⟨g, g5⟩ := h.up D S
  obtain ⟨s1, s2, s3⟩ := hS
  have b1 := oku.1
  obtain ⟨e1, e2⟩ := edW_ok oku.2 hk hi hl
  have hi24 : i ≤ 24 := by split at hi <;> omega
  have ED := q_edits g (mf := S.1) (lf := S.2.1) (s := 21) (t := t) (by decide) (by omega) (by omega) s1 oku.1 (kind := kind) (i := i) (l := l) hk (by omega)
  rw [wA_id g, wKA] at ED
  have hv : wM (lkW (edW u kind i l) S).1 (lkW (edW u kind i l) S).2.1 21 (edW u kind i l) := wM.wr _ _ (by omega)
  have hu2 : wM (lkW (edW u kind i l) S).1 (lkW (edW u kind i l) S).2.1 t u := s1.other (by omega) (by omega) _
  obtain ⟨m1, m2, m3, m4, m5⟩ := q_meets h hD (S := lkW (edW u kind i l) S) hv e1 s2 (show S.2.2.2.length < 299 by omega)
  obtain ⟨k, k5⟩ := h.up D (lkW (edW u kind i l) S)
  refine e_aload_n dX7_looks_71 rfl (pn 72 rfl ?_)
  refine e_bi (21) dX7_looks_72 (by decide) (pn 74 rfl ?_)
  refine e_iload_n dX7_looks_74 rfl (pn 75 rfl ?_)
  refine e_iload_n dX7_looks_75 rfl (pn 76 rfl ?_)
  refine e_iload_n dX7_looks_76 rfl (pn 77 rfl ?_)
  refine e_iload dX7_looks_77 rfl (pn 79 rfl ?_)
  refine c_V0 dX7_looks_79 ml_X7_65 mv_X7_edits (by decide) ED g.1 rfl rfl (Nat.le_of_ble_eq_true rfl) (pn 82 rfl ?_)
  refine e_aload_n dX7_looks_82 rfl (pn 83 rfl ?_)
  refine c_V0 dX7_looks_83 ml_X7_113 mv_X7_meets (by decide) m1 k.1 rfl rfl (Nat.le_of_ble_eq_true rfl) (pn 86 rfl ?_)
  exact K ⟨by rw [m4, m5]; exact hu2, m2, Nat.le_trans m3 (by show S.2.2.2.length + 1 ≤ m + 1; omega)⟩
/-- what one candidate keeps -/
theorem lkM_ok {D : Md} (hD : cD D) {t : Nat} (ht : t < 12) {u v : List Nat} (okv : okL v) (hv : v.length ≤ 30) {m : Nat} {S : KS} (hS : okK D t u m S) : okK D t u (m + 1) (lkM D v (lkW v S)) := by
  obtain ⟨s1, s2, s3⟩ := hS
  have hu2 : wM (lkW v S).1 (lkW v S).2.1 t u := s1.other (by omega) hv _
  unfold lkM
  by_cases hm : isM D v ∧ v ∉ (lkW v S).2.2.2
  · rw [if_pos hm]
    exact ⟨hu2, nW_snoc s2 hD.2.1.2 hm.1.1 okv, by show (S.2.2.2 ++ [v]).length ≤ m + 1; simp; omega⟩
  · rw [if_neg hm]
    exact ⟨hu2, s2, by show S.2.2.2.length ≤ m + 1; omega⟩
theorem lkL_ok {D : Md} (hD : cD D) {t : Nat} (ht : t < 12) {u : List Nat} (oku : okW u) {kind i : Nat} (hk : kind ≤ 2) (hi : if kind = 1 then i ≤ u.length else i < u.length) (c : Nat) : ∀ (l m : Nat) (S : KS), l + c ≤ 4 → okK D t u m S → okK D t u (m + c) (lkL D u kind i c l S) := by
  induction c with
  | zero => intro l m S hl hS; exact hS
  | succ c ih =>
    intro l m S hl hS
    have b1 := oku.1
    obtain ⟨e1, e2⟩ := edW_ok oku.2 hk hi (show l < 4 by omega)
    have := ih (l + 1) (m + 1) _ (by omega) (lkM_ok hD ht e1 (by omega) hS)
    rw [show m + 1 + c = m + (c + 1) by omega] at this
    exact this
theorem lkI_ok {D : Md} (hD : cD D) {t : Nat} (ht : t < 12) {u : List Nat} (oku : okW u) {kind : Nat} (hk : kind ≤ 2) (c : Nat) : ∀ (i m : Nat) (S : KS), i + c = (if kind = 1 then u.length + 1 else u.length) → okK D t u m S → okK D t u (m + c * (if kind = 0 then 1 else D.1)) (lkI D u kind c i S) := by
  have hq := hD.1
  induction c with
  | zero => intro i m S hi hS; rw [Nat.zero_mul]; exact hS
  | succ c ih =>
    intro i m S hi hS
    have hb : if kind = 1 then i ≤ u.length else i < u.length := by split at hi <;> split <;> omega
    have L := lkL_ok hD ht oku hk hb (if kind = 0 then 1 else D.1) 0 m S (by split <;> omega) hS
    have := ih (i + 1) _ _ (by omega) L
    rw [Nat.add_mul, Nat.one_mul]
    rw [show m + (if kind = 0 then 1 else D.1) + c * (if kind = 0 then 1 else D.1) = m + (c * (if kind = 0 then 1 else D.1) + (if kind = 0 then 1 else D.1)) by omega] at this
    exact this
theorem lkK_ok {D : Md} (hD : cD D) {t : Nat} (ht : t < 12) {u : List Nat} (oku : okW u) {S : KS} (hS : okK D t u 1 S) : okK D t u 230 (lkK D u 3 0 S) := by
  have hq := hD.1
  have b1 := oku.1
  have bd : ∀ c, c ≤ 25 → c * D.1 ≤ 100 := fun c hc => Nat.le_trans (Nat.mul_le_mul hc hq.2) (by decide)
  have b0 := bd (u.length + 1) (by omega)
  have b2 := bd u.length (by omega)
  have h0 := lkI_ok hD ht oku (kind := 0) (by decide) u.length 0 1 S (by rw [if_neg (by decide)]; omega) hS
  rw [if_pos rfl] at h0
  have h1 := lkI_ok hD ht oku (kind := 1) (by decide) (u.length + 1) 0 _ _ (by rw [if_pos rfl]; omega) h0
  rw [if_neg (by decide)] at h1
  have h2 := lkI_ok hD ht oku (kind := 2) (by decide) u.length 0 _ _ (by rw [if_neg (by decide)]; omega) h1
  rw [if_neg (by decide)] at h2
  exact ⟨h2.1, h2.2.1, Nat.le_trans h2.2.2 (by omega)⟩
theorem q_looks {w : Wd} (h : kH w) {D : Md} (hD : cD D) {t : Nat} (ht : t < 12) {u : List Nat} (oku : okW u) {S : KS} (hu : wM S.1 S.2.1 t u) : CW mX7_looks [.ref 41, .int (nI t)] (wK w D S) none (wK w D (lkK D u 3 0 (lkM D u (va_up S.1 21 (S.1 t), cpF S.2.1 21 t 30, S.2.2.1, [])))) ∧ okK D t u 230 (lkK D u 3 0 (lkM D u (va_up S.1 21 (S.1 t), cpF S.2.1 21 t 30, S.2.2.1, []))) := by
  have b1 := oku.1
  obtain ⟨hq, hn, hmm, ha⟩ := id hD
  -- everything for an end that is given
  have all : ∀ {r : Option Value} {w' : Wd}, (okK D t u 230 (lkK D u 3 0 (lkM D u (va_up S.1 21 (S.1 t), cpF S.2.1 21 t 30, S.2.2.1, []))) → EW mX7_looks none 104 [.ref 41, .int (nI t), dmy, dmy, dmy] [] (wK w D (lkK D u 3 0 (lkM D u (va_up S.1 21 (S.1 t), cpF S.2.1 21 t 30, S.2.2.1, [])))) r w') → EW mX7_looks none 0 [.ref 41, .int (nI t), dmy, dmy, dmy] [] (wK w D S) r w' := by
    intro r w' K
    have lL : ∀ (kind i : Nat), kind ≤ 2 → (if kind = 1 then i ≤ u.length else i < u.length) → ∀ (c l : Nat) (m : Nat) (T : KS), l + c = (if kind = 0 then 1 else D.1) → m + c < 299 → okK D t u m T → (okK D t u (m + c) (lkL D u kind i c l T) → EW mX7_looks none 92 [.ref 41, .int (nI t), .int (nI kind), .int (nI i), dmy] [] (wK w D (lkL D u kind i c l T)) r w') → EW mX7_looks none 54 [.ref 41, .int (nI t), .int (nI kind), .int (nI i), .int (nI l)] [] (wK w D T) r w' := by
      intro kind i hk hi c
      induction c with
      | zero =>
        intro l m T hl hm hT K
        obtain ⟨g, g5⟩ := h.up D T
        refine e_iload dX7_looks_54 rfl (pn 56 rfl ?_)
        refine e_iload_n dX7_looks_56 rfl (pn 57 rfl ?_)
        by_cases hk0 : kind = 0
        · rw [if_pos hk0] at hl
          refine e_if_ne 64 dX7_looks_57 (by decide) (fun c57 => ?_) (fun c57 => pn 60 rfl ?_)
          · exact absurd (by rw [hk0]; rfl) c57
          · refine e_ic (1) dX7_looks_60 (by decide) (pn 61 rfl ?_)
            refine e_goto 68 dX7_looks_61 (by decide) ?_
            refine e_icmp_ge 92 dX7_looks_68 (by decide) (fun c68 => ?_) (fun c68 => pn 71 rfl ?_)
            · exact e_dr [_, _, _, _, _] 4 rfl (K hT)
            · exact absurd (nI_le (a := 1) (b := l) (by omega) (by omega)) c68
        · rw [if_neg hk0] at hl
          refine e_if_ne 64 dX7_looks_57 (by decide) (fun c57 => ?_) (fun c57 => pn 60 rfl ?_)
          · refine e_aload_n dX7_looks_64 rfl (pn 65 rfl ?_)
            refine e_get dX7_looks_65 fl_X7_7 g.1 rfl (pn 68 rfl ?_)
            refine e_icmp_ge 92 dX7_looks_68 (by decide) (fun c68 => ?_) (fun c68 => pn 71 rfl ?_)
            · exact e_dr [_, _, _, _, _] 4 rfl (K hT)
            · exact absurd (nI_le (a := D.1) (b := l) (by omega) (by omega)) c68
          · exact absurd ((nI_eq (b := 0) (by omega) (by omega)).mp c57) hk0
      | succ c ih =>
        intro l m T hl hm hT K
        obtain ⟨g, g5⟩ := h.up D T
        have hl4 : l < 4 := by split at hl <;> omega
        have go : EW mX7_looks none 71 [.ref 41, .int (nI t), .int (nI kind), .int (nI i), .int (nI l)] [] (wK w D T) r w' := by
          refine q_lkStep h hD ht oku hk hi hl4 (m := m) (by omega) hT (fun hT2 => ?_)
          refine s_inc [_, _, _, _, _] (1) dX7_looks_86 (by decide) rfl (Nat.le_of_ble_eq_true rfl) rfl (pn 89 rfl ?_)
          refine e_goto 54 dX7_looks_89 (by decide) ?_
          rw [nI_1]
          refine ih (l + 1) (m + 1) _ (by omega) (by omega) hT2 (fun hT3 => ?_)
          rw [show m + 1 + c = m + (c + 1) by omega] at hT3
          exact K hT3
        refine e_iload dX7_looks_54 rfl (pn 56 rfl ?_)
        refine e_iload_n dX7_looks_56 rfl (pn 57 rfl ?_)
        by_cases hk0 : kind = 0
        · rw [if_pos hk0] at hl
          refine e_if_ne 64 dX7_looks_57 (by decide) (fun c57 => ?_) (fun c57 => pn 60 rfl ?_)
          · exact absurd (by rw [hk0]; rfl) c57
          · refine e_ic (1) dX7_looks_60 (by decide) (pn 61 rfl ?_)
            refine e_goto 68 dX7_looks_61 (by decide) ?_
            refine e_icmp_ge 92 dX7_looks_68 (by decide) (fun c68 => ?_) (fun c68 => pn 71 rfl ?_)
            · exact absurd c68 (nI_ge (a := l) (b := 1) (by omega) (by omega))
            · exact go
        · rw [if_neg hk0] at hl
          refine e_if_ne 64 dX7_looks_57 (by decide) (fun c57 => ?_) (fun c57 => pn 60 rfl ?_)
          · refine e_aload_n dX7_looks_64 rfl (pn 65 rfl ?_)
            refine e_get dX7_looks_65 fl_X7_7 g.1 rfl (pn 68 rfl ?_)
            refine e_icmp_ge 92 dX7_looks_68 (by decide) (fun c68 => ?_) (fun c68 => pn 71 rfl ?_)
            · exact absurd c68 (nI_ge (a := l) (b := D.1) (by omega) (by omega))
            · exact go
          · exact absurd ((nI_eq (b := 0) (by omega) (by omega)).mp c57) hk0
    have lI : ∀ (kind : Nat), kind ≤ 2 → ∀ (c i m : Nat) (T : KS), i + c = (if kind = 1 then u.length + 1 else u.length) → m + c * (if kind = 0 then 1 else D.1) < 299 → okK D t u m T → (okK D t u (m + c * (if kind = 0 then 1 else D.1)) (lkI D u kind c i T) → EW mX7_looks none 98 [.ref 41, .int (nI t), .int (nI kind), dmy, dmy] [] (wK w D (lkI D u kind c i T)) r w') → EW mX7_looks none 25 [.ref 41, .int (nI t), .int (nI kind), .int (nI i), dmy] [] (wK w D T) r w' := by
      intro kind hk c
      induction c with
      | zero =>
        intro i m T hi hm hT K
        obtain ⟨g, g5⟩ := h.up D T
        rw [Nat.zero_mul, Nat.add_zero] at K
        refine e_iload_n dX7_looks_25 rfl (pn 26 rfl ?_)
        refine e_iload_n dX7_looks_26 rfl (pn 27 rfl ?_)
        refine e_ic (1) dX7_looks_27 (by decide) (pn 28 rfl ?_)
        by_cases hk1 : kind = 1
        · rw [if_pos hk1] at hi
          refine e_icmp_ne 42 dX7_looks_28 (by decide) (fun c28 => ?_) (fun c28 => pn 31 rfl ?_)
          · exact absurd (by rw [hk1]; rfl) c28
          · refine e_aload_n dX7_looks_31 rfl (pn 32 rfl ?_)
            refine e_get dX7_looks_32 fl_X7_13 g.1 rfl (pn 35 rfl ?_)
            refine e_iload_n dX7_looks_35 rfl (pn 36 rfl ?_)
            refine e_iald (t) dX7_looks_36 g.2.1 rfl (by omega) (by omega) (pn 37 rfl ?_)
            rw [hT.1.1]
            refine e_ic (1) dX7_looks_37 (by decide) (pn 38 rfl ?_)
            refine e_iadd dX7_looks_38 (pn 39 rfl ?_)
            refine e_goto 48 dX7_looks_39 (by decide) ?_
            rw [nI_1]
            refine e_icmp_ge 98 dX7_looks_48 (by decide) (fun c48 => ?_) (fun c48 => pn 51 rfl ?_)
            · exact e_dr [_, _, _, _, _] 3 rfl (K hT)
            · exact absurd (nI_le (by omega) (by omega)) c48
        · rw [if_neg hk1] at hi
          refine e_icmp_ne 42 dX7_looks_28 (by decide) (fun c28 => ?_) (fun c28 => pn 31 rfl ?_)
          · refine e_aload_n dX7_looks_42 rfl (pn 43 rfl ?_)
            refine e_get dX7_looks_43 fl_X7_13 g.1 rfl (pn 46 rfl ?_)
            refine e_iload_n dX7_looks_46 rfl (pn 47 rfl ?_)
            refine e_iald (t) dX7_looks_47 g.2.1 rfl (by omega) (by omega) (pn 48 rfl ?_)
            rw [hT.1.1]
            refine e_icmp_ge 98 dX7_looks_48 (by decide) (fun c48 => ?_) (fun c48 => pn 51 rfl ?_)
            · exact e_dr [_, _, _, _, _] 3 rfl (K hT)
            · exact absurd (nI_le (by omega) (by omega)) c48
          · exact absurd ((nI_eq (b := 1) (by omega) (by omega)).mp c28) hk1
      | succ c ih =>
        intro i m T hi hm hT K
        obtain ⟨g, g5⟩ := h.up D T
        have hsm : (c + 1) * (if kind = 0 then 1 else D.1) = c * (if kind = 0 then 1 else D.1) + (if kind = 0 then 1 else D.1) := by rw [Nat.add_mul, Nat.one_mul]
        rw [hsm] at hm K
        have go : (if kind = 1 then i ≤ u.length else i < u.length) → EW mX7_looks none 51 [.ref 41, .int (nI t), .int (nI kind), .int (nI i), dmy] [] (wK w D T) r w' := by
          intro hib
          refine e_ic (0) dX7_looks_51 (by decide) (pn 52 rfl ?_)
          refine s_i [_, _, _, _, _] dX7_looks_52 (Nat.le_of_ble_eq_true rfl) rfl (pn 54 rfl ?_)
          refine lL kind i hk hib (if kind = 0 then 1 else D.1) 0 m T (by omega) (by omega) hT (fun hT2 => ?_)
          refine s_inc [_, _, _, _, _] (1) dX7_looks_92 (by decide) rfl (Nat.le_of_ble_eq_true rfl) rfl (pn 95 rfl ?_)
          refine e_goto 25 dX7_looks_95 (by decide) ?_
          rw [nI_1]
          refine ih (i + 1) (m + (if kind = 0 then 1 else D.1)) _ (by omega) (by omega) hT2 (fun hT3 => ?_)
          rw [show m + (if kind = 0 then 1 else D.1) + c * (if kind = 0 then 1 else D.1) = m + (c * (if kind = 0 then 1 else D.1) + (if kind = 0 then 1 else D.1)) by omega] at hT3
          exact K hT3
        refine e_iload_n dX7_looks_25 rfl (pn 26 rfl ?_)
        refine e_iload_n dX7_looks_26 rfl (pn 27 rfl ?_)
        refine e_ic (1) dX7_looks_27 (by decide) (pn 28 rfl ?_)
        by_cases hk1 : kind = 1
        · rw [if_pos hk1] at hi go
          refine e_icmp_ne 42 dX7_looks_28 (by decide) (fun c28 => ?_) (fun c28 => pn 31 rfl ?_)
          · exact absurd (by rw [hk1]; rfl) c28
          · refine e_aload_n dX7_looks_31 rfl (pn 32 rfl ?_)
            refine e_get dX7_looks_32 fl_X7_13 g.1 rfl (pn 35 rfl ?_)
            refine e_iload_n dX7_looks_35 rfl (pn 36 rfl ?_)
            refine e_iald (t) dX7_looks_36 g.2.1 rfl (by omega) (by omega) (pn 37 rfl ?_)
            rw [hT.1.1]
            refine e_ic (1) dX7_looks_37 (by decide) (pn 38 rfl ?_)
            refine e_iadd dX7_looks_38 (pn 39 rfl ?_)
            refine e_goto 48 dX7_looks_39 (by decide) ?_
            rw [nI_1]
            refine e_icmp_ge 98 dX7_looks_48 (by decide) (fun c48 => ?_) (fun c48 => pn 51 rfl ?_)
            · exact absurd c48 (nI_ge (by omega) (by omega))
            · exact go (by omega)
        · rw [if_neg hk1] at hi go
          refine e_icmp_ne 42 dX7_looks_28 (by decide) (fun c28 => ?_) (fun c28 => pn 31 rfl ?_)
          · refine e_aload_n dX7_looks_42 rfl (pn 43 rfl ?_)
            refine e_get dX7_looks_43 fl_X7_13 g.1 rfl (pn 46 rfl ?_)
            refine e_iload_n dX7_looks_46 rfl (pn 47 rfl ?_)
            refine e_iald (t) dX7_looks_47 g.2.1 rfl (by omega) (by omega) (pn 48 rfl ?_)
            rw [hT.1.1]
            refine e_icmp_ge 98 dX7_looks_48 (by decide) (fun c48 => ?_) (fun c48 => pn 51 rfl ?_)
            · exact absurd c48 (nI_ge (by omega) (by omega))
            · exact go (by omega)
          · exact absurd ((nI_eq (b := 1) (by omega) (by omega)).mp c28) hk1
    have hu0 : wM (va_up S.1 21 (S.1 t)) (cpF S.2.1 21 t 30) t u := hu.cpo (by omega) _
    have hv0 : wM (va_up S.1 21 (S.1 t)) (cpF S.2.1 21 t 30) 21 u := hu.cp
    obtain ⟨g, g5⟩ := h.up D S
    obtain ⟨k, k5⟩ := h.up D (S.1, S.2.1, S.2.2.1, [])
    have CP := q_copies k (mf := S.1) (lf := S.2.1) (s := 21) (t := t) (by decide) (by omega)
    rw [wA_id k, wKA] at CP
    obtain ⟨m1, m2, m3, m4, m5⟩ := q_meets h hD (S := (va_up S.1 21 (S.1 t), cpF S.2.1 21 t 30, S.2.2.1, [])) hv0 oku.2 (fun k hk => by cases hk) (show (0 : Nat) < 299 by decide)
    obtain ⟨z, z5⟩ := h.up D (va_up S.1 21 (S.1 t), cpF S.2.1 21 t 30, S.2.2.1, [])
    generalize hT0 : lkM D u (va_up S.1 21 (S.1 t), cpF S.2.1 21 t 30, S.2.2.1, []) = T0 at *
    have okT0 : okK D t u 1 T0 := ⟨by rw [m4, m5]; exact hu0, m2, m3⟩
    have hD4 : 25 * D.1 ≤ 25 * 4 := Nat.mul_le_mul_left _ hq.2
    have bd : ∀ c, c ≤ 25 → c * D.1 ≤ 100 := fun c hc => Nat.le_trans (Nat.mul_le_mul hc hq.2) (by decide)
    refine e_aload_n dX7_looks_0 rfl (pn 1 rfl ?_)
    refine e_ic (0) dX7_looks_1 (by decide) (pn 2 rfl ?_)
    refine e_put dX7_looks_2 fp_X7_110 g.1 rfl (Nat.le_of_ble_eq_true rfl) (pn 5 rfl ?_)
    refine pw (w1 := wK w D (S.1, S.2.1, S.2.2.1, [])) (wK41 w D S []) ?_
    refine e_aload_n dX7_looks_5 rfl (pn 6 rfl ?_)
    refine e_bi (21) dX7_looks_6 (by decide) (pn 8 rfl ?_)
    refine e_iload_n dX7_looks_8 rfl (pn 9 rfl ?_)
    refine c_V0 dX7_looks_9 ml_X7_69 mv_X7_copies (by decide) CP k.1 rfl rfl (Nat.le_of_ble_eq_true rfl) (pn 12 rfl ?_)
    refine e_aload_n dX7_looks_12 rfl (pn 13 rfl ?_)
    refine c_V0 dX7_looks_13 ml_X7_113 mv_X7_meets (by decide) m1 z.1 rfl rfl (Nat.le_of_ble_eq_true rfl) (pn 16 rfl ?_)
    refine e_ic (0) dX7_looks_16 (by decide) (pn 17 rfl ?_)
    refine s_in [_, _, _, _, _] dX7_looks_17 (Nat.le_of_ble_eq_true rfl) rfl (pn 18 rfl ?_)
    -- the three kinds, one behind another
    have b0 := bd (u.length + 1) (by omega)
    have b2 := bd u.length (by omega)
    refine e_iload_n dX7_looks_18 rfl (pn 19 rfl ?_)
    refine e_ic (3) dX7_looks_19 (by decide) (pn 20 rfl ?_)
    refine e_icmp_ge 104 dX7_looks_20 (by decide) (fun c20 => ?_) (fun c20 => pn 23 rfl ?_)
    · exact absurd c20 (by decide)
    · refine e_ic (0) dX7_looks_23 (by decide) (pn 24 rfl ?_)
      refine s_in [_, _, _, _, _] dX7_looks_24 (Nat.le_of_ble_eq_true rfl) rfl (pn 25 rfl ?_)
      refine lI 0 (by decide) u.length 0 1 T0 (by rw [if_neg (by decide)]; omega) (by simp; omega) okT0 (fun h0 => ?_)
      refine s_inc [_, _, _, _, _] (1) dX7_looks_98 (by decide) rfl (Nat.le_of_ble_eq_true rfl) rfl (pn 101 rfl ?_)
      refine e_goto 18 dX7_looks_101 (by decide) ?_
      refine e_iload_n dX7_looks_18 rfl (pn 19 rfl ?_)
      refine e_ic (3) dX7_looks_19 (by decide) (pn 20 rfl ?_)
      refine e_icmp_ge 104 dX7_looks_20 (by decide) (fun c20 => ?_) (fun c20 => pn 23 rfl ?_)
      · exact absurd c20 (by decide)
      · refine e_ic (0) dX7_looks_23 (by decide) (pn 24 rfl ?_)
        refine s_in [_, _, _, _, _] dX7_looks_24 (Nat.le_of_ble_eq_true rfl) rfl (pn 25 rfl ?_)
        refine lI 1 (by decide) (u.length + 1) 0 (1 + u.length * 1) _ (by rw [if_pos rfl]; omega) (by simp only [if_neg (show ¬ (1 : Nat) = 0 by decide)]; omega) h0 (fun h1 => ?_)
        rw [if_neg (show ¬ (1 : Nat) = 0 by decide)] at h1
        refine s_inc [_, _, _, _, _] (1) dX7_looks_98 (by decide) rfl (Nat.le_of_ble_eq_true rfl) rfl (pn 101 rfl ?_)
        refine e_goto 18 dX7_looks_101 (by decide) ?_
        refine e_iload_n dX7_looks_18 rfl (pn 19 rfl ?_)
        refine e_ic (3) dX7_looks_19 (by decide) (pn 20 rfl ?_)
        refine e_icmp_ge 104 dX7_looks_20 (by decide) (fun c20 => ?_) (fun c20 => pn 23 rfl ?_)
        · exact absurd c20 (by decide)
        · refine e_ic (0) dX7_looks_23 (by decide) (pn 24 rfl ?_)
          refine s_in [_, _, _, _, _] dX7_looks_24 (Nat.le_of_ble_eq_true rfl) rfl (pn 25 rfl ?_)
          refine lI 2 (by decide) u.length 0 (1 + u.length * 1 + (u.length + 1) * D.1) _ (by rw [if_neg (by decide)]; omega) (by simp only [if_neg (show ¬ (2 : Nat) = 0 by decide)]; omega) h1 (fun h2 => ?_)
          rw [if_neg (show ¬ (2 : Nat) = 0 by decide)] at h2
          refine s_inc [_, _, _, _, _] (1) dX7_looks_98 (by decide) rfl (Nat.le_of_ble_eq_true rfl) rfl (pn 101 rfl ?_)
          refine e_goto 18 dX7_looks_101 (by decide) ?_
          refine e_iload_n dX7_looks_18 rfl (pn 19 rfl ?_)
          refine e_ic (3) dX7_looks_19 (by decide) (pn 20 rfl ?_)
          refine e_icmp_ge 104 dX7_looks_20 (by decide) (fun c20 => ?_) (fun c20 => pn 23 rfl ?_)
          · refine e_dr [_, _, _, _, _] 2 rfl (K ⟨h2.1, h2.2.1, Nat.le_trans h2.2.2 (by omega)⟩)
          · exact absurd (by decide) c20
  have okE : okK D t u 230 (lkK D u 3 0 (lkM D u (va_up S.1 21 (S.1 t), cpF S.2.1 21 t 30, S.2.2.1, []))) := by
    have hu0 : wM (va_up S.1 21 (S.1 t)) (cpF S.2.1 21 t 30) t u := hu.cpo (by omega) _
    refine lkK_ok hD ht oku ?_
    unfold lkM
    by_cases hm : isM D u ∧ u ∉ (va_up S.1 21 (S.1 t), cpF S.2.1 21 t 30, S.2.2.1, ([] : List (List Nat))).2.2.2
    · rw [if_pos hm]
      exact ⟨hu0, nW_snoc (fun k hk => by cases hk) hD.2.1.2 hm.1.1 oku.2, by simp⟩
    · rw [if_neg hm]
      exact ⟨hu0, (fun k hk => by cases hk), (by show (0 : Nat) ≤ 1; decide)⟩
  refine ⟨?_, okE⟩
  refine cw_of (M := mX7_looks) fx_X7_looks (lv := [.ref 41, .int (nI t), dmy, dmy, dmy]) rfl (Nat.le_of_ble_eq_true rfl) ?_
  refine all (fun _ => ?_)
  exact e_vret dX7_looks_104 rfl rfl rfl
