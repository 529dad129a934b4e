/-! THE CLASS as it stands in the world -/
abbrev lxF (q : Nat) : Cel := oB 6 [.ref 2, .ref 15, .ref 19, .ref 22, .ref 26, .ref 39, .int (nI q)]
def rf12 : Nat → Option Nat := fun k => if k < 12 then some (3 + k) else none
def rf8 : Nat → Option Nat := fun k => if k < 8 then some (28 + k) else none
theorem rf12_v {k : Nat} (h : k < 12) : rf12 k = some (3 + k) := if_pos h
theorem rf8_v {k : Nat} (h : k < 8) : rf8 k = some (28 + k) := if_pos h
def XA (w : Wd) (S : St) : Prop := w[1]? = some (lxF S.1) ∧ w[2]? = some (aR 12 rf12) ∧ ∀ k, k < 12 → w[3 + k]? = some (rowW (S.2.1 k))
def XCs (w : Wd) (S : St) (wr len : Nat) (f : Nat → Int32) : Prop := (∃ q m a b lm sz, w[15]? = some (cdF wr q S.2.2.1.1 m a b lm sz)) ∧ (S.2.2.1.1 ≠ 0 → w[15]? = some (cdF wr S.1 S.2.2.1.1 S.2.2.1.2.1 S.2.2.1.2.2.1 (bNat S) (lmN S) (nI (szN S))) ∧ ceC S.1 S.2.2.1.1 S.2.2.1.2.1 (lmN S) ≤ len ∧ ∀ p, 1 ≤ p → RO S.1 S.2.2.1.1 S.2.2.1.2.1 S.2.2.1.2.2.1 (bNat S) (lmN S) f p)
def XC (w : Wd) (S : St) : Prop := ∃ (wr len : Nat) (f : Nat → Int32) (used : Nat), (wr = 18 ∨ 48 ≤ wr) ∧ w[wr]? = some (aI len f) ∧ len ≤ 15360 ∧ ((∃ v, w[16]? = some (rowW v)) ∧ ∃ v, w[17]? = some (rowW v)) ∧ ((used ≤ 2 * len ∨ len = 15360) ∧ used ≤ 46080 ∧ w.length ≤ 48 + used ∧ tot w ≤ 40000 + used ∧ 48 ≤ w.length) ∧ XCs w S wr len f
def XP (w : Wd) : Prop := ∃ e g, pP w e g
def XQ (w : Wd) : Prop := ∃ (f : Nat → Int32) (g : Nat → Int64) (v : List Nat), w[22]? = some (oB 2 [.ref 23, .ref 24, .ref 25]) ∧ w[23]? = some (aI 625 f) ∧ w[24]? = some (aJ 625 g) ∧ w[25]? = some (rowW v)
def XT (w : Wd) (S : St) : Prop := (∃ (q n : Nat) (fd : Int32) (bp : Int64), w[26]? = some (tcF S.2.2.2.1.1 q n fd bp)) ∧ w[27]? = some (aR 8 rf8) ∧ (∀ k, k < 8 → ∃ v, w[28 + k]? = some (rowW v)) ∧ (∀ k, k < S.2.2.2.1.1 → w[28 + k]? = some (rowW (S.2.2.2.1.2 k))) ∧ (∃ e, w[36]? = some (aI 1352 e)) ∧ (∃ v, w[37]? = some (rowW v) ∧ okW v) ∧ ∃ v, w[38]? = some (rowW v) ∧ okW v
def XL (w : Wd) (S : St) : Prop := w[39]? = some (lnF S.2.2.2.2.1.1 (S.2.2.2.2.1.1 + S.2.2.2.2.1.2.1) (S.2.2.2.2.1.1 + S.2.2.2.2.1.2.1 + S.2.2.2.2.1.2.2) S.2.2.2.2.2.1) ∧ ∃ v, w[40]? = some (rowW v)
def XI (w : Wd) (S : St) : Prop := XA w S ∧ XC w S ∧ XP w ∧ XQ w ∧ XT w S ∧ XL w S
/-- the same cells -/
def AG (lo hi : Nat) (w w1 : Wd) : Prop := ∀ i, lo ≤ i → i ≤ hi → w1[i]? = w[i]?
theorem AG.rf (lo hi : Nat) (w : Wd) : AG lo hi w w := fun _ _ _ => rfl
theorem AG.tr {lo hi : Nat} {w w1 w2 : Wd} (h : AG lo hi w w1) (h2 : AG lo hi w1 w2) : AG lo hi w w2 := fun i a b => (h2 i a b).trans (h i a b)
theorem ag {w : Wd} {a lo hi : Nat} (c : Cel) (h : a < lo ∨ hi < a) : AG lo hi w (w.set a c) := fun i h1 h2 => List.getElem?_set_ne (by omega)
abbrev FX (w w1 : Wd) : Prop := AG 41 47 w w1
theorem XA.fr {w w1 : Wd} {S : St} (h : XA w S) (g : AG 1 14 w w1) : XA w1 S := ⟨by rw [g 1 (by decide) (by decide)]; exact h.1, by rw [g 2 (by decide) (by decide)]; exact h.2.1, fun k hk => by rw [g (3 + k) (by omega) (by omega)]; exact h.2.2 k hk⟩
theorem XC.fr {w w1 : Wd} {S : St} (h : XC w S) (g : AG 15 18 w w1) (g2 : ∀ i, 48 ≤ i → w1[i]? = w[i]?) (hl : w1.length = w.length) (ht : tot w1 = tot w) : XC w1 S := by
  obtain ⟨wr, len, f, used, h1, h2, h3, ⟨h4, h5⟩, h6, h7, h8⟩ := h
  have e15 := g 15 (by decide) (by decide)
  refine ⟨wr, len, f, used, h1, ?_, h3, ⟨by rw [g 16 (by decide) (by decide)]; exact h4, by rw [g 17 (by decide) (by decide)]; exact h5⟩, by rw [hl, ht]; exact h6, by rw [e15]; exact h7, by rw [e15]; exact h8⟩
  rcases h1 with h1 | h1
  · rw [g wr (by omega) (by omega)]; exact h2
  · rw [g2 wr h1]; exact h2
theorem XP.fr {w w1 : Wd} (h : XP w) (g : AG 19 21 w w1) : XP w1 := by
  obtain ⟨e, g0, h1, h2, h3⟩ := h
  exact ⟨e, g0, by rw [g 19 (by decide) (by decide)]; exact h1, by rw [g 20 (by decide) (by decide)]; exact h2, by rw [g 21 (by decide) (by decide)]; exact h3⟩
theorem XQ.fr {w w1 : Wd} (h : XQ w) (g : AG 22 25 w w1) : XQ w1 := by
  obtain ⟨f, g0, v, h1, h2, h3, h4⟩ := h
  exact ⟨f, g0, v, by rw [g 22 (by decide) (by decide)]; exact h1, by rw [g 23 (by decide) (by decide)]; exact h2, by rw [g 24 (by decide) (by decide)]; exact h3, by rw [g 25 (by decide) (by decide)]; exact h4⟩
theorem XT.fr {w w1 : Wd} {S : St} (h : XT w S) (h8 : S.2.2.2.1.1 ≤ 8) (g : AG 26 38 w w1) : XT w1 S := by
  obtain ⟨h1, h2, h3, h4, h5, h6, h7⟩ := h
  refine ⟨by rw [g 26 (by decide) (by decide)]; exact h1, by rw [g 27 (by decide) (by decide)]; exact h2, fun k hk => by rw [g (28 + k) (by omega) (by omega)]; exact h3 k hk, fun k hk => by rw [g (28 + k) (by omega) (by omega)]; exact h4 k hk, by rw [g 36 (by decide) (by decide)]; exact h5, by rw [g 37 (by decide) (by decide)]; exact h6, by rw [g 38 (by decide) (by decide)]; exact h7⟩
theorem XL.fr {w w1 : Wd} {S : St} (h : XL w S) (g : AG 39 40 w w1) : XL w1 S := ⟨by rw [g 39 (by decide) (by decide)]; exact h.1, by rw [g 40 (by decide) (by decide)]; exact h.2⟩
theorem XI.fr {w w1 : Wd} {S : St} (hS : SI S) (h : XI w S) (g : FM w w1) : XI w1 S := by
  obtain ⟨hA, hC, hP, hQ, hT, hL⟩ := h
  have G : ∀ i, i < 41 ∨ 47 < i → w1[i]? = w[i]? := g.2.2
  exact ⟨hA.fr (fun i _ _ => G i (by omega)), hC.fr (fun i _ _ => G i (by omega)) (fun i _ => G i (by omega)) g.1 g.2.1, hP.fr (fun i _ _ => G i (by omega)), hQ.fr (fun i _ _ => G i (by omega)), hT.fr hS.2.2.2.1.1 (fun i _ _ => G i (by omega)), hL.fr (fun i _ _ => G i (by omega))⟩
theorem MI.fr {w w1 : Wd} {S : St} (h : MI w S) (g : FX w w1) : MI w1 S := by
  obtain ⟨hS, x, mf, lf, E, nl, g0, f, ⟨⟨h1, h2, h3⟩, h4, h5, h6, h7⟩, hW, hE⟩ := h
  exact ⟨hS, x, mf, lf, E, nl, g0, f, ⟨⟨by rw [g 41 (by decide) (by decide)]; exact h1, by rw [g 42 (by decide) (by decide)]; exact h2, by rw [g 43 (by decide) (by decide)]; exact h3⟩, by rw [g 44 (by decide) (by decide)]; exact h4, by rw [g 45 (by decide) (by decide)]; exact h5, by rw [g 46 (by decide) (by decide)]; exact h6, by rw [g 47 (by decide) (by decide)]; exact h7⟩, hW, hE⟩
/-- one cell changed: what must be told anew -/
theorem XC.set {w : Wd} {S : St} (h : XC w S) {a : Nat} {e0 c : Cel} (ha : a < 15 ∨ (18 < a ∧ a < 48)) (h0 : w[a]? = some e0) (hz : szE c = szE e0) : XC (w.set a c) S :=
  h.fr (ag c (by omega)) (fun i hi => List.getElem?_set_ne (by omega)) List.length_set (tot_set w a e0 c h0 hz)
theorem XI.inA {w : Wd} {S S2 : St} (hS : SI S) (h : XI w S) {a : Nat} {e0 c : Cel} (ha : 1 ≤ a ∧ a ≤ 14) (h0 : w[a]? = some e0) (hz : szE c = szE e0) (e : S2.1 = S.1 ∧ S2.2.2 = S.2.2) (hA : XA (w.set a c) S2) : XI (w.set a c) S2 := by
  obtain ⟨q, reg, rest⟩ := S2
  obtain ⟨e1, e2⟩ := e
  have e1 : q = S.1 := e1
  have e2 : rest = S.2.2 := e2
  subst e1; subst e2
  exact ⟨hA, h.2.1.set (by omega) h0 hz, h.2.2.1.fr (ag c (by omega)), h.2.2.2.1.fr (ag c (by omega)), h.2.2.2.2.1.fr hS.2.2.2.1.1 (ag c (by omega)), h.2.2.2.2.2.fr (ag c (by omega))⟩
theorem XI.reg {w : Wd} {S : St} (hS : SI S) (h : XI w S) {s : Nat} (hs : s < 12) (u : List Nat) : XI (w.set (3 + s) (rowW u)) (sReg S s u) := by
  have h0 := h.1.2.2 s hs
  refine h.inA hS (by omega) h0 rfl ⟨rfl, rfl⟩ ⟨gne (by omega) h.1.1, gne (by omega) h.1.2.1, fun k hk => ?_⟩
  show _ = some (rowW (va_up S.2.1 s u k))
  by_cases e : k = s
  · subst e; rw [up_eq]; exact gse h0
  · rw [up_ne _ _ e]; exact gne (by omega) (h.1.2.2 k hk)
theorem XI.inP {w : Wd} {S : St} (hS : SI S) (h : XI w S) {a : Nat} {e0 c : Cel} (ha : 19 ≤ a ∧ a ≤ 21) (h0 : w[a]? = some e0) (hz : szE c = szE e0) (hP : XP (w.set a c)) : XI (w.set a c) S :=
  ⟨h.1.fr (ag c (by omega)), h.2.1.set (by omega) h0 hz, hP, h.2.2.2.1.fr (ag c (by omega)), h.2.2.2.2.1.fr hS.2.2.2.1.1 (ag c (by omega)), h.2.2.2.2.2.fr (ag c (by omega))⟩
theorem XI.inQ {w : Wd} {S : St} (hS : SI S) (h : XI w S) {a : Nat} {e0 c : Cel} (ha : 22 ≤ a ∧ a ≤ 25) (h0 : w[a]? = some e0) (hz : szE c = szE e0) (hQ : XQ (w.set a c)) : XI (w.set a c) S :=
  ⟨h.1.fr (ag c (by omega)), h.2.1.set (by omega) h0 hz, h.2.2.1.fr (ag c (by omega)), hQ, h.2.2.2.2.1.fr hS.2.2.2.1.1 (ag c (by omega)), h.2.2.2.2.2.fr (ag c (by omega))⟩
theorem XI.s20 {w : Wd} {S : St} (hS : SI S) (h : XI w S) (e : Nat → Int64) : XI (w.set 20 (aJ 25 e)) S := by
  obtain ⟨e0, g0, hp⟩ := h.2.2.1
  exact h.inP hS (by decide) hp.2.1 rfl ⟨e, g0, hp.up e⟩
theorem XI.s21 {w : Wd} {S : St} (hS : SI S) (h : XI w S) (g : Nat → Int64) : XI (w.set 21 (aJ 175 g)) S := by
  obtain ⟨e0, g0, hp⟩ := h.2.2.1
  exact h.inP hS (by decide) hp.2.2 rfl ⟨e0, g, hp.upL g⟩
theorem XI.s23 {w : Wd} {S : St} (hS : SI S) (h : XI w S) (f : Nat → Int32) : XI (w.set 23 (aI 625 f)) S := by
  obtain ⟨f0, g0, v0, h1, h2, h3, h4⟩ := h.2.2.2.1
  exact h.inQ hS (by decide) h2 rfl ⟨f, g0, v0, gne (by decide) h1, gse h2, gne (by decide) h3, gne (by decide) h4⟩
theorem XI.s24 {w : Wd} {S : St} (hS : SI S) (h : XI w S) (g : Nat → Int64) : XI (w.set 24 (aJ 625 g)) S := by
  obtain ⟨f0, g0, v0, h1, h2, h3, h4⟩ := h.2.2.2.1
  exact h.inQ hS (by decide) h3 rfl ⟨f0, g, v0, gne (by decide) h1, gne (by decide) h2, gse h3, gne (by decide) h4⟩
theorem XI.s25 {w : Wd} {S : St} (hS : SI S) (h : XI w S) (v : List Nat) : XI (w.set 25 (rowW v)) S := by
  obtain ⟨f0, g0, v0, h1, h2, h3, h4⟩ := h.2.2.2.1
  exact h.inQ hS (by decide) h4 rfl ⟨f0, g0, v, gne (by decide) h1, gne (by decide) h2, gne (by decide) h3, gse h4⟩
/-! its tests -/
theorem x_isR (w : Wd) (s : Int32) : CW mX6_isRegister [.int s] w (some (.int (iR s))) w := by
  have e0 : (0 : Int32).toInt = 0 := by decide
  have e11 : (11 : Int32).toInt = 11 := by decide
  have e12 : (12 : Int32).toInt = 12 := by decide
  refine cw_of (M := mX6_isRegister) fx_X6_isRegister (lv := [.int s]) rfl (Nat.le_of_ble_eq_true rfl) ?_
  refine e_iload_n dX6_isRegister_0 rfl (pn 1 rfl ?_)
  refine e_if_lt 14 dX6_isRegister_1 (by decide) (fun c1 => ?_) (fun c1 => pn 4 rfl ?_)
  · refine e_ic (0) dX6_isRegister_14 (by decide) (pn 15 rfl ?_)
    exact e_zret dX6_isRegister_15 rfl (by decide) (by rw [iR0 (fun e => by have h9 := e.1; rw [fa_lt] at c1; rw [fa_le] at h9; omega)]) rfl
  · refine e_iload_n dX6_isRegister_4 rfl (pn 5 rfl ?_)
    refine e_bi (12) dX6_isRegister_5 (by decide) (pn 7 rfl ?_)
    refine e_icmp_ge 14 dX6_isRegister_7 (by decide) (fun c7 => ?_) (fun c7 => pn 10 rfl ?_)
    · refine e_ic (0) dX6_isRegister_14 (by decide) (pn 15 rfl ?_)
      exact e_zret dX6_isRegister_15 rfl (by decide) (by rw [iR0 (fun e => by have h9 := e.2; rw [fa_le] at c7 h9; omega)]) rfl
    · refine e_ic (1) dX6_isRegister_10 (by decide) (pn 11 rfl ?_)
      refine e_goto 15 dX6_isRegister_11 (by decide) ?_
      exact e_zret dX6_isRegister_15 rfl (by decide) (by rw [iRp ⟨by rw [fa_lt] at c1; rw [fa_le]; omega, by rw [fa_le] at c7 ⊢; omega⟩]) rfl
theorem x_isE (w : Wd) (v : Int32) : CW mX6_isEither [.int v] w (some (.int (if 0 ≤ v ∧ v ≤ 1 then 1 else 0))) w := by
  have e0 : (0 : Int32).toInt = 0 := by decide
  have e1 : (1 : Int32).toInt = 1 := by decide
  refine cw_of (M := mX6_isEither) fx_X6_isEither (lv := [.int v]) rfl (Nat.le_of_ble_eq_true rfl) ?_
  refine e_iload_n dX6_isEither_0 rfl (pn 1 rfl ?_)
  refine e_if_eq 9 dX6_isEither_1 (by decide) (fun c1 => ?_) (fun c1 => pn 4 rfl ?_)
  · refine e_ic (1) dX6_isEither_9 (by decide) (pn 10 rfl ?_)
    refine e_goto 14 dX6_isEither_10 (by decide) ?_
    exact e_zret dX6_isEither_14 rfl (by decide) (by rw [if_pos (by rw [c1]; decide)]) rfl
  · refine e_iload_n dX6_isEither_4 rfl (pn 5 rfl ?_)
    refine e_ic (1) dX6_isEither_5 (by decide) (pn 6 rfl ?_)
    refine e_icmp_ne 13 dX6_isEither_6 (by decide) (fun c6 => ?_) (fun c6 => pn 9 rfl ?_)
    · refine e_ic (0) dX6_isEither_13 (by decide) (pn 14 rfl ?_)
      exact e_zret dX6_isEither_14 rfl (by decide) (by rw [if_neg (fun e => by rw [fa_le, fa_le] at e; rw [fa_eq] at c1 c6; omega)]) rfl
    · refine e_ic (1) dX6_isEither_9 (by decide) (pn 10 rfl ?_)
      refine e_goto 14 dX6_isEither_10 (by decide) ?_
      exact e_zret dX6_isEither_14 rfl (by decide) (by rw [if_pos (by rw [c6]; decide)]) rfl
theorem x_isC (w : Wd) (v : Int32) : CW mX6_isChance [.int v] w (some (.int (if 0 ≤ v ∧ v ≤ 64 then 1 else 0))) w := by
  refine cw_of (M := mX6_isChance) fx_X6_isChance (lv := [.int v]) rfl (Nat.le_of_ble_eq_true rfl) ?_
  refine e_iload_n dX6_isChance_0 rfl (pn 1 rfl ?_)
  refine e_if_lt 14 dX6_isChance_1 (by decide) (fun c1 => ?_) (fun c1 => pn 4 rfl ?_)
  · refine e_ic (0) dX6_isChance_14 (by decide) (pn 15 rfl ?_)
    exact e_zret dX6_isChance_15 rfl (by decide) (by rw [if_neg (fun e => by have h9 := e.1; rw [fa_lt] at c1; rw [fa_le] at h9; omega)]) rfl
  · refine e_iload_n dX6_isChance_4 rfl (pn 5 rfl ?_)
    refine e_bi (64) dX6_isChance_5 (by decide) (pn 7 rfl ?_)
    refine e_icmp_gt 14 dX6_isChance_7 (by decide) (fun c7 => ?_) (fun c7 => pn 10 rfl ?_)
    · refine e_ic (0) dX6_isChance_14 (by decide) (pn 15 rfl ?_)
      exact e_zret dX6_isChance_15 rfl (by decide) (by rw [if_neg (fun e => by have h9 := e.2; rw [fa_lt] at c7; rw [fa_le] at h9; omega)]) rfl
    · refine e_ic (1) dX6_isChance_10 (by decide) (pn 11 rfl ?_)
      refine e_goto 15 dX6_isChance_11 (by decide) ?_
      exact e_zret dX6_isChance_15 rfl (by decide) (by rw [if_pos ⟨by rw [fa_lt] at c1; rw [fa_le]; omega, by rw [fa_lt] at c7; rw [fa_le]; omega⟩]) rfl
theorem q1_v {q : Nat} (hq : 2 ≤ q ∧ q ≤ 4) : (nI q - 1).toInt = (q : Int) - 1 ∧ (nI q).toInt = (q : Int) := by
  have : q = 2 ∨ q = 3 ∨ q = 4 := by omega
  rcases this with rfl | rfl | rfl <;> decide
theorem x_isL {w : Wd} {q : Nat} (h1 : w[1]? = some (lxF q)) (hq : 2 ≤ q ∧ q ≤ 4) (l : Int32) : CW mX6_isLetter [.ref 1, .int l] w (some (.int (if 0 ≤ l ∧ l ≤ nI q - 1 then 1 else 0))) w := by
  obtain ⟨e1, e2⟩ := q1_v hq
  refine cw_of (M := mX6_isLetter) fx_X6_isLetter (lv := [.ref 1, .int l]) rfl (Nat.le_of_ble_eq_true rfl) ?_
  refine e_iload_n dX6_isLetter_0 rfl (pn 1 rfl ?_)
  refine e_if_lt 16 dX6_isLetter_1 (by decide) (fun c1 => ?_) (fun c1 => pn 4 rfl ?_)
  · refine e_ic (0) dX6_isLetter_16 (by decide) (pn 17 rfl ?_)
    exact e_zret dX6_isLetter_17 rfl (by decide) (by rw [if_neg (fun e => by have h9 := e.1; rw [fa_lt] at c1; rw [fa_le] at h9; omega)]) rfl
  · refine e_iload_n dX6_isLetter_4 rfl (pn 5 rfl ?_)
    refine e_aload_n dX6_isLetter_5 rfl (pn 6 rfl ?_)
    refine e_get dX6_isLetter_6 fl_X6_9 h1 rfl (pn 9 rfl ?_)
    refine e_icmp_ge 16 dX6_isLetter_9 (by decide) (fun c9 => ?_) (fun c9 => pn 12 rfl ?_)
    · refine e_ic (0) dX6_isLetter_16 (by decide) (pn 17 rfl ?_)
      exact e_zret dX6_isLetter_17 rfl (by decide) (by rw [if_neg (fun e => by have h9 := e.2; rw [fa_le] at c9 h9; omega)]) rfl
    · refine e_ic (1) dX6_isLetter_12 (by decide) (pn 13 rfl ?_)
      refine e_goto 17 dX6_isLetter_13 (by decide) ?_
      exact e_zret dX6_isLetter_17 rfl (by decide) (by rw [if_pos ⟨by rw [fa_lt] at c1; rw [fa_le]; omega, by rw [fa_le] at c9 ⊢; omega⟩]) rfl
theorem x_isLn {w : Wd} {q : Nat} (h1 : w[1]? = some (lxF q)) (hq : 2 ≤ q ∧ q ≤ 4) {l : Nat} (hl : l < 2 ^ 31) : CW mX6_isLetter [.ref 1, .int (nI l)] w (some (.int (if l < q then 1 else 0))) w := by
  have := x_isL h1 hq (nI l)
  rw [show nI q - 1 = nI (q - 1) from pk_sub (b := 1) (by omega)] at this
  by_cases h : l < q
  · rw [if_pos ⟨nI_pos' hl, nI_le (by omega) (by omega)⟩] at this
    rw [if_pos h]; exact this
  · rw [if_neg (fun e => by have := (nI_leI hl (by omega)).mp e.2; omega)] at this
    rw [if_neg h]; exact this
theorem x_isE0 {w : Wd} {q : Nat} (h1 : w[1]? = some (lxF q)) (hq : 2 ≤ q ∧ q ≤ 4) {x : Nat} {u : List Nat} (hx : w[x]? = some (rowW u)) (hu : u.length ≤ 24) {k i l : Int32} (hb : ¬ eN q u.length k i l) : CW mX6_isEdit [.ref 1, .ref x, .int k, .int i, .int l] w (some (.int 0)) w := by
  have e0 : (0 : Int32).toInt = 0 := by decide
  have e2 : (2 : Int32).toInt = 2 := by decide
  have en : (nI u.length).toInt = (u.length : Int) := nI_toInt (by omega)
  refine cw_of (M := mX6_isEdit) fx_X6_isEdit (lv := [.ref 1, .ref x, .int k, .int i, .int l]) rfl (Nat.le_of_ble_eq_true rfl) ?_
  refine e_iload_n dX6_isEdit_0 rfl (pn 1 rfl ?_)
  refine e_if_lt 13 dX6_isEdit_1 (by decide) (fun c1 => ?_) (fun c1 => pn 4 rfl ?_)
  · refine e_ic (0) dX6_isEdit_13 (by decide) (pn 14 rfl ?_)
    exact e_zret dX6_isEdit_14 rfl (by decide) rfl rfl
  · refine e_iload_n dX6_isEdit_4 rfl (pn 5 rfl ?_)
    refine e_ic (2) dX6_isEdit_5 (by decide) (pn 6 rfl ?_)
    refine e_icmp_gt 13 dX6_isEdit_6 (by decide) (fun c6 => ?_) (fun c6 => pn 9 rfl ?_)
    · refine e_ic (0) dX6_isEdit_13 (by decide) (pn 14 rfl ?_)
      exact e_zret dX6_isEdit_14 rfl (by decide) rfl rfl
    · have hk : 0 ≤ k ∧ k ≤ 2 := by
        rw [fa_lt] at c1 c6
        rw [fa_le, fa_le]
        omega
      refine e_iload_n dX6_isEdit_9 rfl (pn 10 rfl ?_)
      refine e_if_ge 15 dX6_isEdit_10 (by decide) (fun c10 => ?_) (fun c10 => pn 13 rfl ?_)
      · refine e_iload_n dX6_isEdit_15 rfl (pn 16 rfl ?_)
        refine e_aload_n dX6_isEdit_16 rfl (pn 17 rfl ?_)
        refine e_get dX6_isEdit_17 fl_X6_74 hx rfl (pn 20 rfl ?_)
        refine e_icmp_gt 36 dX6_isEdit_20 (by decide) (fun c20 => ?_) (fun c20 => pn 23 rfl ?_)
        · refine e_ic (0) dX6_isEdit_36 (by decide) (pn 37 rfl ?_)
          exact e_zret dX6_isEdit_37 rfl (by decide) rfl rfl
        · have key : (0 ≤ i ∧ i ≤ (if k = 1 then nI u.length else nI u.length - 1)) → EW mX6_isEdit none 38 [.ref 1, .ref x, .int k, .int i, .int l] [] w (some (.int 0)) w := by
            intro hi
            refine e_iload_n dX6_isEdit_38 rfl (pn 39 rfl ?_)
            refine e_if_eq 51 dX6_isEdit_39 (by decide) (fun c39 => ?_) (fun c39 => pn 42 rfl ?_)
            · exact absurd (eN_to hq hu hk hi (Or.inl (by rw [c39]; decide))) hb
            · have L := x_isL h1 hq l
              rw [if_neg (fun e => hb (eN_to hq hu hk hi (Or.inr e)))] at L
              refine e_aload_n dX6_isEdit_42 rfl (pn 43 rfl ?_)
              refine e_iload dX6_isEdit_43 rfl (pn 45 rfl ?_)
              refine c_V1 dX6_isEdit_45 ml_X6_104 mv_X6_isLetter (by decide) L h1 rfl rfl (Nat.le_of_ble_eq_true rfl) (pn 48 rfl ?_)
              refine e_if_eq 55 dX6_isEdit_48 (by decide) (fun _ => ?_) (fun c_9 => absurd (by decide) c_9)
              refine e_ic (0) dX6_isEdit_55 (by decide) (pn 56 rfl ?_)
              exact e_zret dX6_isEdit_56 rfl (by decide) rfl rfl
          refine e_iload_n dX6_isEdit_23 rfl (pn 24 rfl ?_)
          refine e_aload_n dX6_isEdit_24 rfl (pn 25 rfl ?_)
          refine e_get dX6_isEdit_25 fl_X6_74 hx rfl (pn 28 rfl ?_)
          refine e_icmp_ne 38 dX6_isEdit_28 (by decide) (fun c28 => ?_) (fun c28 => pn 31 rfl ?_)
          · refine key ⟨c10, ?_⟩
            by_cases k1 : k = 1
            · rw [if_pos k1]; rw [fa_lt] at c20; rw [fa_le]; omega
            · rw [if_neg k1]
              have h5 : u.length ≠ 0 := fun e => by rw [fa_le] at c10; rw [fa_lt] at c20; rw [fa_eq] at c28; omega
              rw [show nI u.length - 1 = nI (u.length - 1) from pk_sub (b := 1) (by omega), fa_le, nI_toInt (by omega)]
              rw [fa_lt] at c20; rw [fa_eq] at c28; omega
          · refine e_iload_n dX6_isEdit_31 rfl (pn 32 rfl ?_)
            refine e_ic (1) dX6_isEdit_32 (by decide) (pn 33 rfl ?_)
            refine e_icmp_eq 38 dX6_isEdit_33 (by decide) (fun c33 => ?_) (fun c33 => pn 36 rfl ?_)
            · refine key ⟨c10, ?_⟩
              rw [if_pos c33]; rw [fa_lt] at c20; rw [fa_le]; omega
            · refine e_ic (0) dX6_isEdit_36 (by decide) (pn 37 rfl ?_)
              exact e_zret dX6_isEdit_37 rfl (by decide) rfl rfl
      · refine e_ic (0) dX6_isEdit_13 (by decide) (pn 14 rfl ?_)
        exact e_zret dX6_isEdit_14 rfl (by decide) rfl rfl
theorem x_isE1 {w : Wd} {q : Nat} (h1 : w[1]? = some (lxF q)) (hq : 2 ≤ q ∧ q ≤ 4) {x : Nat} {u : List Nat} (hx : w[x]? = some (rowW u)) (hu : u.length ≤ 24) {kd j l : Nat} (hk : kd ≤ 2) (hj : if kd = 1 then j ≤ u.length else j < u.length) (hl : kd = 0 ∨ l < q) : CW mX6_isEdit [.ref 1, .ref x, .int (nI kd), .int (nI j), .int (nI l)] w (some (.int 1)) w := by
  have hj24 : j ≤ u.length := by split at hj <;> omega
  refine cw_of (M := mX6_isEdit) fx_X6_isEdit (lv := [.ref 1, .ref x, .int (nI kd), .int (nI j), .int (nI l)]) rfl (Nat.le_of_ble_eq_true rfl) ?_
  refine e_iload_n dX6_isEdit_0 rfl (pn 1 rfl ?_)
  refine e_if_lt 13 dX6_isEdit_1 (by decide) (fun c_9 => absurd c_9 (nI_pos (by omega))) (fun _ => pn 4 rfl ?_)
  refine e_iload_n dX6_isEdit_4 rfl (pn 5 rfl ?_)
  refine e_ic (2) dX6_isEdit_5 (by decide) (pn 6 rfl ?_)
  refine e_icmp_gt 13 dX6_isEdit_6 (by decide) (fun c_9 => absurd c_9 (nI_nlt (a := 2) hk (by omega))) (fun _ => pn 9 rfl ?_)
  refine e_iload_n dX6_isEdit_9 rfl (pn 10 rfl ?_)
  refine e_if_ge 15 dX6_isEdit_10 (by decide) (fun _ => ?_) (fun c_9 => absurd (nI_pos' (by omega)) c_9)
  refine e_iload_n dX6_isEdit_15 rfl (pn 16 rfl ?_)
  refine e_aload_n dX6_isEdit_16 rfl (pn 17 rfl ?_)
  refine e_get dX6_isEdit_17 fl_X6_74 hx rfl (pn 20 rfl ?_)
  refine e_icmp_gt 36 dX6_isEdit_20 (by decide) (fun c_9 => absurd c_9 (nI_nlt hj24 (by omega))) (fun _ => pn 23 rfl ?_)
  refine e_iload_n dX6_isEdit_23 rfl (pn 24 rfl ?_)
  refine e_aload_n dX6_isEdit_24 rfl (pn 25 rfl ?_)
  refine e_get dX6_isEdit_25 fl_X6_74 hx rfl (pn 28 rfl ?_)
  have key : EW mX6_isEdit none 38 [.ref 1, .ref x, .int (nI kd), .int (nI j), .int (nI l)] [] w (some (.int 1)) w := by
    refine e_iload_n dX6_isEdit_38 rfl (pn 39 rfl ?_)
    by_cases h0 : kd = 0
    · refine e_if_eq 51 dX6_isEdit_39 (by decide) (fun _ => ?_) (fun c_9 => absurd (by rw [h0]; rfl) c_9)
      refine e_ic (1) dX6_isEdit_51 (by decide) (pn 52 rfl ?_)
      refine e_goto 56 dX6_isEdit_52 (by decide) ?_
      exact e_zret dX6_isEdit_56 rfl (by decide) rfl rfl
    · refine e_if_eq 51 dX6_isEdit_39 (by decide) (fun c_9 => absurd c_9 (nI_ne0 (by omega) (by omega))) (fun _ => pn 42 rfl ?_)
      have L := x_isLn h1 hq (l := l) (by have := hl.resolve_left h0; omega)
      rw [if_pos (hl.resolve_left h0)] at L
      refine e_aload_n dX6_isEdit_42 rfl (pn 43 rfl ?_)
      refine e_iload dX6_isEdit_43 rfl (pn 45 rfl ?_)
      refine c_V1 dX6_isEdit_45 ml_X6_104 mv_X6_isLetter (by decide) L h1 rfl rfl (Nat.le_of_ble_eq_true rfl) (pn 48 rfl ?_)
      refine e_if_eq 55 dX6_isEdit_48 (by decide) (fun c_9 => absurd c_9 (by decide)) (fun _ => pn 51 rfl ?_)
      refine e_ic (1) dX6_isEdit_51 (by decide) (pn 52 rfl ?_)
      refine e_goto 56 dX6_isEdit_52 (by decide) ?_
      exact e_zret dX6_isEdit_56 rfl (by decide) rfl rfl
  by_cases e : j = u.length
  · refine e_icmp_ne 38 dX6_isEdit_28 (by decide) (fun c_9 => absurd c_9 (fun e2 => e2 (by rw [e]))) (fun _ => pn 31 rfl ?_)
    have k1 : kd = 1 := by
      by_cases h9 : kd = 1
      · exact h9
      · rw [if_neg h9] at hj; omega
    refine e_iload_n dX6_isEdit_31 rfl (pn 32 rfl ?_)
    refine e_ic (1) dX6_isEdit_32 (by decide) (pn 33 rfl ?_)
    refine e_icmp_eq 38 dX6_isEdit_33 (by decide) (fun _ => ?_) (fun c_9 => absurd (by rw [k1]; rfl) c_9)
    exact key
  · refine e_icmp_ne 38 dX6_isEdit_28 (by decide) (fun _ => ?_) (fun c_9 => absurd c_9 (fun e2 => e ((nI_eq (by omega) (by omega)).mp e2)))
    exact key
theorem x_isRow {w : Wd} {q : Nat} (h1 : w[1]? = some (lxF q)) (hq : 2 ≤ q ∧ q ≤ 4) {n x : Nat} (hn : n ≤ 24) (hx : x < 2 ^ 64) : CW mX6_isRow [.ref 1, .int (nI n), .long (lN x)] w (some (.int (if wOK q n x then 1 else 0))) w := by
  have loop : x < 4 ^ n → ∀ (c i : Nat), i + c = n → (∀ j, j < i → x / 4 ^ j % 4 < q) → EW mX6_isRow none 15 [.ref 1, .int (nI n), .long (lN x), dmy, .int (nI i)] [] w (some (.int (if wOK q n x then 1 else 0))) w := by
    intro h4 c
    induction c with
    | zero =>
      intro i hi hg
      refine e_iload dX6_isRow_15 rfl (pn 17 rfl ?_)
      refine e_iload_n dX6_isRow_17 rfl (pn 18 rfl ?_)
      refine e_icmp_ge 45 dX6_isRow_18 (by decide) (fun _ => ?_) (fun c_9 => absurd (nI_le (by omega) (by omega)) c_9)
      refine e_ic (1) dX6_isRow_45 (by decide) (pn 46 rfl ?_)
      exact e_zret dX6_isRow_46 rfl (by decide) (by rw [if_pos ⟨h4, fun k hk => hg k (by omega)⟩]) rfl
    | succ c ih =>
      intro i hi hg
      have h9 := Nat.mod_lt (x / 4 ^ i) (show 0 < 4 by decide)
      have L := x_isLn h1 hq (l := x / 4 ^ i % 4) (by omega)
      refine e_iload dX6_isRow_15 rfl (pn 17 rfl ?_)
      refine e_iload_n dX6_isRow_17 rfl (pn 18 rfl ?_)
      refine e_icmp_ge 45 dX6_isRow_18 (by decide) (fun c_9 => absurd c_9 (nI_ge (by omega) (by omega))) (fun _ => pn 21 rfl ?_)
      refine e_aload_n dX6_isRow_21 rfl (pn 22 rfl ?_)
      refine e_lload_n dX6_isRow_22 rfl (pn 23 rfl ?_)
      refine e_ic (2) dX6_isRow_23 (by decide) (pn 24 rfl ?_)
      refine e_iload dX6_isRow_24 rfl (pn 26 rfl ?_)
      refine e_imul dX6_isRow_26 (pn 27 rfl ?_)
      refine e_lushr dX6_isRow_27 (pn 28 rfl ?_)
      rw [n2, wb_shr hx (by omega), p4]
      refine e_l2i dX6_isRow_28 (pn 29 rfl ?_)
      refine e_ic (3) dX6_isRow_29 (by decide) (pn 30 rfl ?_)
      refine e_iand dX6_isRow_30 (pn 31 rfl ?_)
      rw [lN_i, show (3 : Int32) = nI (2 ^ 2 - 1) from rfl, fa_mask]
      by_cases hd : x / 4 ^ i % 4 < q
      · rw [if_pos hd] at L
        refine c_V1 dX6_isRow_31 ml_X6_104 mv_X6_isLetter (by decide) L h1 rfl rfl (Nat.le_of_ble_eq_true rfl) (pn 34 rfl ?_)
        refine e_if_ne 39 dX6_isRow_34 (by decide) (fun _ => ?_) (fun c_9 => absurd c_9 (by decide))
        refine s_inc [_, _, _, _, _] (1) dX6_isRow_39 (by decide) rfl (Nat.le_of_ble_eq_true rfl) rfl (pn 42 rfl ?_)
        refine e_goto 15 dX6_isRow_42 (by decide) ?_
        rw [nI_1]
        refine ih (i + 1) (by omega) (fun j hj => ?_)
        by_cases e : j = i
        · rw [e]; exact hd
        · exact hg j (by omega)
      · rw [if_neg hd] at L
        refine c_V1 dX6_isRow_31 ml_X6_104 mv_X6_isLetter (by decide) L h1 rfl rfl (Nat.le_of_ble_eq_true rfl) (pn 34 rfl ?_)
        refine e_if_ne 39 dX6_isRow_34 (by decide) (fun c_9 => absurd c_9 (by decide)) (fun _ => pn 37 rfl ?_)
        refine e_ic (0) dX6_isRow_37 (by decide) (pn 38 rfl ?_)
        exact e_zret dX6_isRow_38 rfl (by decide) (by rw [if_neg (fun e => hd (e.2 i (by omega)))]) rfl
  refine cw_of (M := mX6_isRow) fx_X6_isRow (lv := [.ref 1, .int (nI n), .long (lN x), dmy, dmy]) rfl (Nat.le_of_ble_eq_true rfl) ?_
  refine e_lload_n dX6_isRow_0 rfl (pn 1 rfl ?_)
  refine e_ic (2) dX6_isRow_1 (by decide) (pn 2 rfl ?_)
  refine e_iload_n dX6_isRow_2 rfl (pn 3 rfl ?_)
  refine e_imul dX6_isRow_3 (pn 4 rfl ?_)
  refine e_lushr dX6_isRow_4 (pn 5 rfl ?_)
  refine e_lc (0) dX6_isRow_5 (by decide) (pn 6 rfl ?_)
  refine e_lcmp dX6_isRow_6 (pn 7 rfl ?_)
  by_cases h4 : x < 4 ^ n
  · refine e_if_eq 12 dX6_isRow_7 (by decide) (fun _ => ?_) (fun c_9 => absurd ((cmp_eq _ _).mpr ((sh_0 hx hn).mpr h4)) c_9)
    refine e_ic (0) dX6_isRow_12 (by decide) (pn 13 rfl ?_)
    refine s_i [_, _, _, _, _] dX6_isRow_13 (Nat.le_of_ble_eq_true rfl) rfl (pn 15 rfl ?_)
    exact loop h4 n 0 (by omega) (fun j hj => by omega)
  · refine e_if_eq 12 dX6_isRow_7 (by decide) (fun c_9 => absurd c_9 (fun e => h4 ((sh_0 hx hn).mp ((cmp_eq _ _).mp e)))) (fun _ => pn 10 rfl ?_)
    refine e_ic (0) dX6_isRow_10 (by decide) (pn 11 rfl ?_)
    exact e_zret dX6_isRow_11 rfl (by decide) (by rw [if_neg (fun e => h4 e.1)]) rfl
theorem x_isSL {w : Wd} {q : Nat} (h1 : w[1]? = some (lxF q)) (hq : 2 ≤ q ∧ q ≤ 4) (n : Int32) : (sOK q n → CW mX6_isSourceLength [.ref 1, .int n] w (some (.int 1)) w) ∧ (¬ sOK q n → CW mX6_isSourceLength [.ref 1, .int n] w (some (.int 0)) w) := by
  have loop : ∀ {r : Option Value} {w' : Wd} (k : Nat), k ≤ 12 → (EW mX6_isSourceLength none 35 [.ref 1, .int (nI k), .int (nI (q ^ k)), dmy] [] w r w') → ∀ (c i : Nat), i + c = k → EW mX6_isSourceLength none 17 [.ref 1, .int (nI k), .int (nI (q ^ i)), .int (nI i)] [] w r w' := by
    intro r w' k hk K c
    induction c with
    | zero =>
      intro i hi
      have e : i = k := by omega
      subst e
      refine e_iload_n dX6_isSourceLength_17 rfl (pn 18 rfl ?_)
      refine e_iload_n dX6_isSourceLength_18 rfl (pn 19 rfl ?_)
      refine e_icmp_ge 35 dX6_isSourceLength_19 (by decide) (fun _ => ?_) (fun c_9 => absurd (nI_le (by omega) (by omega)) c_9)
      exact e_dr [_, _, _, _] 3 rfl K
    | succ c ih =>
      intro i hi
      refine e_iload_n dX6_isSourceLength_17 rfl (pn 18 rfl ?_)
      refine e_iload_n dX6_isSourceLength_18 rfl (pn 19 rfl ?_)
      refine e_icmp_ge 35 dX6_isSourceLength_19 (by decide) (fun c_9 => absurd c_9 (nI_ge (by omega) (by omega))) (fun _ => pn 22 rfl ?_)
      refine e_iload_n dX6_isSourceLength_22 rfl (pn 23 rfl ?_)
      refine e_aload_n dX6_isSourceLength_23 rfl (pn 24 rfl ?_)
      refine e_get dX6_isSourceLength_24 fl_X6_9 h1 rfl (pn 27 rfl ?_)
      refine e_imul dX6_isSourceLength_27 (pn 28 rfl ?_)
      refine s_in [_, _, _, _] dX6_isSourceLength_28 (Nat.le_of_ble_eq_true rfl) rfl (pn 29 rfl ?_)
      refine s_inc [_, _, _, _] (1) dX6_isSourceLength_29 (by decide) rfl (Nat.le_of_ble_eq_true rfl) rfl (pn 32 rfl ?_)
      refine e_goto 17 dX6_isSourceLength_32 (by decide) ?_
      rw [pk_mul, ← Nat.pow_succ, nI_1]
      exact ih (i + 1) (by omega)
  have p16 : ∀ k, k ≤ 12 → q ^ k ≤ 4 ^ 12 := fun k hk => Nat.le_trans (Nat.pow_le_pow_left hq.2 k) (Nat.pow_le_pow_right (by decide) hk)
  have pre : ∀ {r : Option Value} {w' : Wd} (k : Nat), 1 ≤ k → k ≤ 12 → EW mX6_isSourceLength none 35 [.ref 1, .int (nI k), .int (nI (q ^ k)), dmy] [] w r w' → CW mX6_isSourceLength [.ref 1, .int (nI k)] w r w' := by
    intro r w' k h2 h3 K
    refine cw_of (M := mX6_isSourceLength) fx_X6_isSourceLength (lv := [.ref 1, .int (nI k), dmy, dmy]) rfl (Nat.le_of_ble_eq_true rfl) ?_
    refine e_iload_n dX6_isSourceLength_0 rfl (pn 1 rfl ?_)
    refine e_ic (1) dX6_isSourceLength_1 (by decide) (pn 2 rfl ?_)
    refine e_icmp_lt 11 dX6_isSourceLength_2 (by decide) (fun c_9 => absurd c_9 (nI_nlt (b := 1) h2 (by omega))) (fun _ => pn 5 rfl ?_)
    refine e_iload_n dX6_isSourceLength_5 rfl (pn 6 rfl ?_)
    refine e_bi (12) dX6_isSourceLength_6 (by decide) (pn 8 rfl ?_)
    refine e_icmp_le 13 dX6_isSourceLength_8 (by decide) (fun _ => ?_) (fun c_9 => absurd (nI_le (b := 12) h3 (by omega)) c_9)
    refine e_ic (1) dX6_isSourceLength_13 (by decide) (pn 14 rfl ?_)
    refine s_in [_, _, _, _] dX6_isSourceLength_14 (Nat.le_of_ble_eq_true rfl) rfl (pn 15 rfl ?_)
    refine e_ic (0) dX6_isSourceLength_15 (by decide) (pn 16 rfl ?_)
    refine s_in [_, _, _, _] dX6_isSourceLength_16 (Nat.le_of_ble_eq_true rfl) rfl (pn 17 rfl ?_)
    exact loop k h3 K k 0 (by omega)
  refine ⟨fun ⟨k, e, h2, h3, h4⟩ => ?_, fun hb => ?_⟩
  · subst e
    refine pre k h2 h3 ?_
    refine e_iload_n dX6_isSourceLength_35 rfl (pn 36 rfl ?_)
    refine e_si (4096) dX6_isSourceLength_36 (by decide) (pn 39 rfl ?_)
    refine e_icmp_gt 46 dX6_isSourceLength_39 (by decide) (fun c_9 => absurd c_9 (nI_nlt (a := 4096) h4 (by omega))) (fun _ => pn 42 rfl ?_)
    refine e_ic (1) dX6_isSourceLength_42 (by decide) (pn 43 rfl ?_)
    refine e_goto 47 dX6_isSourceLength_43 (by decide) ?_
    exact e_zret dX6_isSourceLength_47 rfl (by decide) rfl rfl
  · by_cases hr : 1 ≤ n ∧ n ≤ 12
    · obtain ⟨k, hk, rfl⟩ := i_nat (a := 1) (b := 12) (by decide) hr.1 hr.2 (by decide)
      have hp := p16 k hk.2
      have hp2 : 4096 < q ^ k := Nat.lt_of_not_le (fun e => hb ⟨k, rfl, hk.1, hk.2, e⟩)
      refine pre k hk.1 hk.2 ?_
      refine e_iload_n dX6_isSourceLength_35 rfl (pn 36 rfl ?_)
      refine e_si (4096) dX6_isSourceLength_36 (by decide) (pn 39 rfl ?_)
      refine e_icmp_gt 46 dX6_isSourceLength_39 (by decide) (fun _ => ?_) (fun c_9 => absurd (nI_lt (a := 4096) hp2 (Nat.lt_of_le_of_lt hp (by decide))) c_9)
      refine e_ic (0) dX6_isSourceLength_46 (by decide) (pn 47 rfl ?_)
      exact e_zret dX6_isSourceLength_47 rfl (by decide) rfl rfl
    · refine cw_of (M := mX6_isSourceLength) fx_X6_isSourceLength (lv := [.ref 1, .int n, dmy, dmy]) rfl (Nat.le_of_ble_eq_true rfl) ?_
      refine e_iload_n dX6_isSourceLength_0 rfl (pn 1 rfl ?_)
      refine e_ic (1) dX6_isSourceLength_1 (by decide) (pn 2 rfl ?_)
      refine e_icmp_lt 11 dX6_isSourceLength_2 (by decide) (fun c2 => ?_) (fun c2 => pn 5 rfl ?_)
      · refine e_ic (0) dX6_isSourceLength_11 (by decide) (pn 12 rfl ?_)
        exact e_zret dX6_isSourceLength_12 rfl (by decide) rfl rfl
      · refine e_iload_n dX6_isSourceLength_5 rfl (pn 6 rfl ?_)
        refine e_bi (12) dX6_isSourceLength_6 (by decide) (pn 8 rfl ?_)
        refine e_icmp_le 13 dX6_isSourceLength_8 (by decide) (fun c_9 => absurd c_9 (fun e => hr ⟨by rw [fa_lt] at c2; rw [fa_le]; omega, e⟩)) (fun _ => pn 11 rfl ?_)
        refine e_ic (0) dX6_isSourceLength_11 (by decide) (pn 12 rfl ?_)
        exact e_zret dX6_isSourceLength_12 rfl (by decide) rfl rfl
theorem x_all {w : Wd} {S : St} (h : XA w S) : CW mX6_lettersOfAll [.ref 1] w (some (.int (nI (rgN S 12)))) w := by
  have loop : ∀ (c k : Nat), k + c = 12 → EW mX6_lettersOfAll none 4 [.ref 1, .int (nI (rgN S k)), .int (nI k)] [] w (some (.int (nI (rgN S 12)))) w := by
    intro c
    induction c with
    | zero =>
      intro k hk
      have e : k = 12 := by omega
      subst e
      refine e_iload_n dX6_lettersOfAll_4 rfl (pn 5 rfl ?_)
      refine e_bi (12) dX6_lettersOfAll_5 (by decide) (pn 7 rfl ?_)
      refine e_icmp_ge 28 dX6_lettersOfAll_7 (by decide) (fun _ => ?_) (fun c_9 => absurd (by decide) c_9)
      refine e_iload_n dX6_lettersOfAll_28 rfl (pn 29 rfl ?_)
      exact e_iret dX6_lettersOfAll_29 rfl rfl rfl
    | succ c ih =>
      intro k hk
      refine e_iload_n dX6_lettersOfAll_4 rfl (pn 5 rfl ?_)
      refine e_bi (12) dX6_lettersOfAll_5 (by decide) (pn 7 rfl ?_)
      refine e_icmp_ge 28 dX6_lettersOfAll_7 (by decide) (fun c_9 => absurd c_9 (nI_ge (b := 12) (by omega) (by omega))) (fun _ => pn 10 rfl ?_)
      refine e_iload_n dX6_lettersOfAll_10 rfl (pn 11 rfl ?_)
      refine e_aload_n dX6_lettersOfAll_11 rfl (pn 12 rfl ?_)
      refine e_get dX6_lettersOfAll_12 fl_X6_15 h.1 rfl (pn 15 rfl ?_)
      refine e_iload_n dX6_lettersOfAll_15 rfl (pn 16 rfl ?_)
      refine e_aald (k) dX6_lettersOfAll_16 h.2.1 rfl (by omega) (by omega) (rf12_v (by omega)) (pn 17 rfl ?_)
      refine e_get dX6_lettersOfAll_17 fl_X6_74 (h.2.2 k (by omega)) rfl (pn 20 rfl ?_)
      refine e_iadd dX6_lettersOfAll_20 (pn 21 rfl ?_)
      refine s_in [_, _, _] dX6_lettersOfAll_21 (Nat.le_of_ble_eq_true rfl) rfl (pn 22 rfl ?_)
      refine s_inc [_, _, _] (1) dX6_lettersOfAll_22 (by decide) rfl (Nat.le_of_ble_eq_true rfl) rfl (pn 25 rfl ?_)
      refine e_goto 4 dX6_lettersOfAll_25 (by decide) ?_
      rw [nI_add, nI_1]
      exact ih (k + 1) (by omega)
  refine cw_of (M := mX6_lettersOfAll) fx_X6_lettersOfAll (lv := [.ref 1, dmy, dmy]) rfl (Nat.le_of_ble_eq_true rfl) ?_
  refine e_ic (0) dX6_lettersOfAll_0 (by decide) (pn 1 rfl ?_)
  refine s_in [_, _, _] dX6_lettersOfAll_1 (Nat.le_of_ble_eq_true rfl) rfl (pn 2 rfl ?_)
  refine e_ic (0) dX6_lettersOfAll_2 (by decide) (pn 3 rfl ?_)
  refine s_in [_, _, _] dX6_lettersOfAll_3 (Nat.le_of_ble_eq_true rfl) rfl (pn 4 rfl ?_)
  exact loop 12 0 (by omega)
