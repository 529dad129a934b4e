/-! THE STATE: q, registers, code (n, m, a, b as told), traces (how many, which), line, seeds (of the class, of the model) -/
abbrev St : Type := Nat × (Nat → List Nat) × (Nat × Nat × Nat × Int32) × (Nat × (Nat → List Nat)) × (Nat × Nat × Nat) × (Int64 × Int64)
def okQ (q : Nat) (u : List Nat) : Prop := u.length ≤ 24 ∧ ∀ a ∈ u, a < q
theorem okQ.w {q : Nat} {u : List Nat} (h : okQ q u) (hq : q ≤ 4) : okW u := ⟨h.1, fun a ha => Nat.lt_of_lt_of_le (h.2 a ha) hq⟩
theorem okQ_nil (q : Nat) : okQ q [] := ⟨by simp, fun a ha => by cases ha⟩
abbrev bNat (S : St) : Nat := if S.1 = 2 then 0 else S.2.2.1.2.2.2.toNatClampNeg
abbrev lmN (S : St) : Nat := if S.1 = 2 then 1 else S.1
def cOK (S : St) : Prop := 0 < S.2.2.1.1 → (S.2.2.1.1 ≤ 16 ∧ (1 ≤ S.2.2.1.2.1 ∧ S.2.2.1.2.1 ≤ 64) ∧ S.2.2.1.2.2.1 < S.2.2.1.2.1) ∧ bOK S.1 S.2.2.1.2.2.2 (bNat S) (lmN S)
def SI (S : St) : Prop := (2 ≤ S.1 ∧ S.1 ≤ 4) ∧ (∀ k, k < 12 → okQ S.1 (S.2.1 k)) ∧ cOK S ∧ (S.2.2.2.1.1 ≤ 8 ∧ ∀ k, k < S.2.2.2.1.1 → okQ S.1 (S.2.2.2.1.2 k)) ∧ S.2.2.2.2.1.1 + S.2.2.2.2.1.2.1 + S.2.2.2.2.1.2.2 ≤ 64 ∧ nxS S.2.2.2.2.2.1 = nxS S.2.2.2.2.2.2
abbrev sReg (S : St) (s : Nat) (u : List Nat) : St := (S.1, va_up S.2.1 s u, S.2.2)
theorem SI.reg {S : St} (h : SI S) {s : Nat} {u : List Nat} (hu : okQ S.1 u) : SI (sReg S s u) := by
  obtain ⟨h1, h2, h3⟩ := h
  refine ⟨h1, fun k hk => ?_, h3⟩
  show okQ S.1 (va_up S.2.1 s u k)
  by_cases e : k = s
  · rw [e, up_eq]; exact hu
  · rw [up_ne _ _ e]; exact h2 k hk
theorem SI.w {S : St} (h : SI S) {k : Nat} (hk : k < 12) : okW (S.2.1 k) := (h.2.1 k hk).w h.1.2
theorem SI.wt {S : St} (h : SI S) {k : Nat} (hk : k < S.2.2.2.1.1) : okW (S.2.2.2.1.2 k) := (h.2.2.2.1.2 k hk).w h.1.2
abbrev mdS (S : St) (x : Int32) : Md := (S.1, S.2.2.1.1, S.2.2.1.2.1, S.2.2.1.2.2.1, S.2.2.1.2.2.2, S.2.2.2.1.1, S.2.2.2.2.1.1, S.2.2.2.2.1.2.1, S.2.2.2.2.1.2.2, S.2.2.2.2.2.2, x)
def MX (w : Wd) (S : St) (x : Int32) (mf lf E nl : Nat → Int32) (g : Nat → Int64) (f : Nat → Int32) : Prop := mB w (mdS S x) mf lf ∧ w[44]? = some (aI 17408 E) ∧ w[45]? = some (aI 4800 nl) ∧ w[46]? = some (aJ 900 g) ∧ w[47]? = some (aI 900 f)
def MW (S : St) (mf lf : Nat → Int32) : Prop := (∀ k, k < 12 → wM mf lf k (S.2.1 k)) ∧ ∀ k, k < S.2.2.2.1.1 → wM mf lf (12 + k) (S.2.2.2.1.2 k)
def EOK (S : St) (E : Nat → Int32) : Prop := 0 < S.2.2.1.1 → ∀ i, RQ S.1 S.2.2.1.1 S.2.2.1.2.1 S.2.2.1.2.2.1 (bNat S) (lmN S) E i
def MI (w : Wd) (S : St) : Prop := SI S ∧ ∃ x mf lf E nl g f, MX w S x mf lf E nl g f ∧ MW S mf lf ∧ EOK S E
def FM (w w2 : Wd) : Prop := w2.length = w.length ∧ tot w2 = tot w ∧ ∀ i, i < 41 ∨ 47 < i → w2[i]? = w[i]?
theorem FM.rf (w : Wd) : FM w w := ⟨rfl, rfl, fun _ _ => rfl⟩
theorem FM.set {w w2 : Wd} (h : FM w w2) {i : Nat} {e0 : Cel} (hi : 41 ≤ i ∧ i ≤ 47) (h0 : w2[i]? = some e0) (e : Cel) (hs : szE e = szE e0) : FM w (w2.set i e) :=
  ⟨by rw [List.length_set]; exact h.1, by rw [tot_set w2 i e0 e h0 hs]; exact h.2.1, fun j hj => by rw [List.getElem?_set_ne (by omega)]; exact h.2.2 j hj⟩
section MX
variable {w : Wd} {S : St} {x : Int32} {mf lf E nl : Nat → Int32} {g : Nat → Int64} {f : Nat → Int32} (h : MX w S x mf lf E nl g f)
theorem MX.sA (h : MX w S x mf lf E nl g f) (mf2 lf2 : Nat → Int32) : MX (wA w mf2 lf2) S x mf2 lf2 E nl g f := ⟨h.1.up mf2 lf2, gne (by decide) (gne (by decide) h.2.1), gne (by decide) (gne (by decide) h.2.2.1), gne (by decide) (gne (by decide) h.2.2.2.1), gne (by decide) (gne (by decide) h.2.2.2.2)⟩
theorem MX.s44 (h : MX w S x mf lf E nl g f) (E2 : Nat → Int32) : MX (w.set 44 (aI 17408 E2)) S x mf lf E2 nl g f := ⟨⟨gne (by decide) h.1.1, gne (by decide) h.1.2.1, gne (by decide) h.1.2.2⟩, gse h.2.1, gne (by decide) h.2.2.1, gne (by decide) h.2.2.2.1, gne (by decide) h.2.2.2.2⟩
theorem MX.s46 (h : MX w S x mf lf E nl g f) (g2 : Nat → Int64) : MX (w.set 46 (aJ 900 g2)) S x mf lf E nl g2 f := ⟨⟨gne (by decide) h.1.1, gne (by decide) h.1.2.1, gne (by decide) h.1.2.2⟩, gne (by decide) h.2.1, gne (by decide) h.2.2.1, gse h.2.2.2.1, gne (by decide) h.2.2.2.2⟩
theorem MX.s47 (h : MX w S x mf lf E nl g f) (f2 : Nat → Int32) : MX (w.set 47 (aI 900 f2)) S x mf lf E nl g f2 := ⟨⟨gne (by decide) h.1.1, gne (by decide) h.1.2.1, gne (by decide) h.1.2.2⟩, gne (by decide) h.2.1, gne (by decide) h.2.2.1, gne (by decide) h.2.2.2.1, gse h.2.2.2.2⟩
theorem MX.s41 (h : MX w S x mf lf E nl g f) (S2 : St) (x2 : Int32) : MX (w.set 41 (mdF (mdS S2 x2))) S2 x2 mf lf E nl g f := ⟨⟨gse h.1.1, gne (by decide) h.1.2.1, gne (by decide) h.1.2.2⟩, gne (by decide) h.2.1, gne (by decide) h.2.2.1, gne (by decide) h.2.2.2.1, gne (by decide) h.2.2.2.2⟩
theorem MX.FA (h : MX w S x mf lf E nl g f) {w0 : Wd} (hF : FM w0 w) (mf2 lf2 : Nat → Int32) : FM w0 (wA w mf2 lf2) := (hF.set (by decide) h.1.2.1 (aI 24 mf2) rfl).set (by decide) (gne (by decide) h.1.2.2) (aI 720 lf2) rfl
theorem MX.F44 (h : MX w S x mf lf E nl g f) {w0 : Wd} (hF : FM w0 w) (E2 : Nat → Int32) : FM w0 (w.set 44 (aI 17408 E2)) := hF.set (by decide) h.2.1 _ rfl
theorem MX.F46 (h : MX w S x mf lf E nl g f) {w0 : Wd} (hF : FM w0 w) (E2 : Nat → Int64) : FM w0 (w.set 46 (aJ 900 E2)) := hF.set (by decide) h.2.2.2.1 _ rfl
theorem MX.F47 (h : MX w S x mf lf E nl g f) {w0 : Wd} (hF : FM w0 w) (E2 : Nat → Int32) : FM w0 (w.set 47 (aI 900 E2)) := hF.set (by decide) h.2.2.2.2 _ rfl
theorem MX.F41 (h : MX w S x mf lf E nl g f) {w0 : Wd} (hF : FM w0 w) (D : Md) : FM w0 (w.set 41 (mdF D)) := hF.set (by decide) h.1.1 _ rfl
end MX
theorem MW.put {S : St} {mf lf : Nat → Int32} (h : MW S mf lf) {s : Nat} (hs : s < 12) {v : List Nat} (hv : v.length ≤ 30) : MW (sReg S s v) (va_up mf s (nI v.length)) (wrL lf s v) := by
  refine ⟨fun k hk => ?_, fun k hk => (h.2 k hk).other (by omega) hv _⟩
  show wM _ _ k (va_up S.2.1 s v k)
  by_cases e : k = s
  · subst e; rw [up_eq]; exact wM.wr mf lf hv
  · rw [up_ne _ _ e]; exact (h.1 k hk).other e hv _
theorem MW.hand {S : St} {mf lf : Nat → Int32} (h : MW S mf lf) (h8 : S.2.2.2.1.1 ≤ 8) {s : Nat} (hs : 20 ≤ s) {v : List Nat} (hv : v.length ≤ 30) (x : Int32) : MW S (va_up mf s x) (wrL lf s v) :=
  ⟨fun k hk => (h.1 k hk).other (by omega) hv _, fun k hk => (h.2 k hk).other (by omega) hv _⟩
theorem MW.handC {S : St} {mf lf : Nat → Int32} (h : MW S mf lf) (h8 : S.2.2.2.1.1 ≤ 8) {s t : Nat} (hs : 20 ≤ s) (x : Int32) : MW S (va_up mf s x) (cpF lf s t 30) :=
  ⟨fun k hk => (h.1 k hk).cpo (by omega) _, fun k hk => (h.2 k hk).cpo (by omega) _⟩
theorem MW.cp {S : St} {mf lf : Nat → Int32} (h : MW S mf lf) {s t : Nat} (hs : s < 12) {v : List Nat} (hv : wM mf lf t v) : MW (sReg S s v) (va_up mf s (mf t)) (cpF lf s t 30) := by
  refine ⟨fun k hk => ?_, fun k hk => (h.2 k hk).cpo (by omega) _⟩
  show wM _ _ k (va_up S.2.1 s v k)
  by_cases e : k = s
  · subst e; rw [up_eq]; exact hv.cp
  · rw [up_ne _ _ e]; exact (h.1 k hk).cpo e _
/-! registers' numbers, and numbers between two bounds -/
theorem i_nat {v : Int32} {a b : Nat} (hb : b < 2 ^ 31) (h1 : nI a ≤ v) (h2 : v ≤ nI b) (ha : a < 2 ^ 31) : ∃ k, (a ≤ k ∧ k ≤ b) ∧ v = nI k := by
  have h0 : ¬ v < 0 := fun e => by
    have p1 := nI_pos' ha
    rw [fa_lt] at e
    rw [fa_le] at p1 h1
    omega
  obtain ⟨j, hj, rfl⟩ := nI_of h0
  rw [nI_leI ha hj] at h1
  rw [nI_leI hj hb] at h2
  exact ⟨j, ⟨h1, h2⟩, rfl⟩
abbrev rOK (s : Int32) : Prop := 0 ≤ s ∧ s ≤ 11
theorem rOK_n {s : Int32} (h : rOK s) : ∃ k, k < 12 ∧ s = nI k := by
  obtain ⟨k, h1, h2⟩ := i_nat (a := 0) (b := 11) (by decide) h.1 h.2 (by decide)
  exact ⟨k, by omega, h2⟩
theorem n_rOK {k : Nat} (h : k < 12) : rOK (nI k) := ⟨nI_pos' (by omega), nI_le (b := 11) (by omega) (by omega)⟩
theorem iR1 {k : Nat} (h : k < 12) : iR (nI k) = 1 := if_pos (n_rOK h)
theorem iR0 {s : Int32} (h : ¬ rOK s) : iR s = 0 := if_neg h
/-! letters -/
theorem M_letters0 (w : Wd) {v : Int32} (h : ¬ (2 ≤ v ∧ v ≤ 4)) : CW mX7_letters [.ref 41, .int v] w (some (.int (-1))) w := by
  refine cw_of (M := mX7_letters) fx_X7_letters (lv := [.ref 41, .int v, dmy]) rfl (Nat.le_of_ble_eq_true rfl) ?_
  refine e_iload_n dX7_letters_0 rfl (pn 1 rfl ?_)
  refine e_i2l dX7_letters_1 (pn 2 rfl ?_)
  refine e_ldc2 dX7_letters_2 lk_X7_43 (pn 5 rfl ?_)
  refine e_ldc2 dX7_letters_5 lk_X7_45 (pn 8 rfl ?_)
  refine c_S1 dX7_letters_8 ml_X7_39 ms_X7_in (by decide) (q_in w v 2 4 (by decide) (by decide)) rfl rfl (Nat.le_of_ble_eq_true rfl) (pn 11 rfl ?_)
  rw [if_neg h]
  refine e_if_ne 16 dX7_letters_11 (by decide) (fun c_9 => absurd c_9 (by decide)) (fun _ => pn 14 rfl ?_)
  refine e_ic (-1) dX7_letters_14 (by decide) (pn 15 rfl ?_)
  exact e_iret dX7_letters_15 rfl rfl rfl
abbrev sLet (S : St) (q : Nat) : St := (q, fun _ => [], (0, S.2.2.1.2), (0, S.2.2.2.1.2), S.2.2.2.2)
theorem SI.let {S : St} (h : SI S) {q : Nat} (hq : 2 ≤ q ∧ q ≤ 4) : SI (sLet S q) := ⟨hq, fun k _ => okQ_nil q, fun h => absurd h (Nat.lt_irrefl 0), ⟨Nat.zero_le _, fun k hk => absurd hk (Nat.not_lt_zero k)⟩, h.2.2.2.2⟩
theorem mz_up (mf : Nat → Int32) (k : Nat) : va_up (fun j => if j < k then (0 : Int32) else mf j) k 0 = fun j => if j < k + 1 then (0 : Int32) else mf j := by
  funext j
  by_cases e : j = k
  · rw [e, up_eq, if_pos (by omega)]
  · rw [up_ne _ _ e]
    by_cases h : j < k
    · rw [if_pos h, if_pos (by omega)]
    · rw [if_neg h, if_neg (by omega)]
theorem M_letters1 {w : Wd} {S : St} (h : MI w S) {q : Nat} (hq : 2 ≤ q ∧ q ≤ 4) : ∃ w2, CW mX7_letters [.ref 41, .int (nI q)] w (some (.int 0)) w2 ∧ FM w w2 ∧ MI w2 (sLet S q) := by
  obtain ⟨hS, x, mf, lf, E, nl, g, f, hX, hW, hE⟩ := h
  have loop : ∀ (c k : Nat), k + c = 24 → EW mX7_letters none 23 [.ref 41, .int (nI q), .int (nI k)] [] ((w.set 41 (mdF (mdS (q, S.2.1, S.2.2) x))).set 42 (aI 24 (fun j => if j < k then (0 : Int32) else mf j))) (some (.int 0)) ((w.set 42 (aI 24 (fun j => if j < 24 then (0 : Int32) else mf j))).set 41 (mdF (mdS (sLet S q) x))) := by
    intro c
    induction c with
    | zero =>
      intro k hk
      have e : k = 24 := by omega
      subst e
      have g1 : ((w.set 41 (mdF (mdS (q, S.2.1, S.2.2) x))).set 42 (aI 24 (fun j => if j < 24 then (0 : Int32) else mf j)))[41]? = some (mdF (mdS (q, S.2.1, S.2.2) x)) := gne (by decide) (gse hX.1.1)
      refine e_iload_n dX7_letters_23 rfl (pn 24 rfl ?_)
      refine e_bi (24) dX7_letters_24 (by decide) (pn 26 rfl ?_)
      refine e_icmp_ge 42 dX7_letters_26 (by decide) (fun _ => ?_) (fun c_9 => absurd (by decide) c_9)
      refine e_aload_n dX7_letters_42 rfl (pn 43 rfl ?_)
      refine e_ic (0) dX7_letters_43 (by decide) (pn 44 rfl ?_)
      refine e_put dX7_letters_44 fp_X7_47 g1 rfl (Nat.le_of_ble_eq_true rfl) (pn 47 rfl ?_)
      refine e_aload_n dX7_letters_47 rfl (pn 48 rfl ?_)
      refine e_ic (0) dX7_letters_48 (by decide) (pn 49 rfl ?_)
      refine e_put dX7_letters_49 fp_X7_50 (gse g1) rfl (Nat.le_of_ble_eq_true rfl) (pn 52 rfl ?_)
      refine e_ic (0) dX7_letters_52 (by decide) (pn 53 rfl ?_)
      exact e_iret dX7_letters_53 rfl rfl (by rw [List.set_set, List.set_comm (i := 41) (j := 42) _ _ (by decide), List.set_set]; rfl)
    | succ c ih =>
      intro k hk
      have g1 : ((w.set 41 (mdF (mdS (q, S.2.1, S.2.2) x))).set 42 (aI 24 (fun j => if j < k then (0 : Int32) else mf j)))[41]? = some (mdF (mdS (q, S.2.1, S.2.2) x)) := gne (by decide) (gse hX.1.1)
      have g2 : ((w.set 41 (mdF (mdS (q, S.2.1, S.2.2) x))).set 42 (aI 24 (fun j => if j < k then (0 : Int32) else mf j)))[42]? = some (aI 24 (fun j => if j < k then (0 : Int32) else mf j)) := gse (gne (by decide) hX.1.2.1)
      refine e_iload_n dX7_letters_23 rfl (pn 24 rfl ?_)
      refine e_bi (24) dX7_letters_24 (by decide) (pn 26 rfl ?_)
      refine e_icmp_ge 42 dX7_letters_26 (by decide) (fun c_9 => absurd c_9 (nI_ge (b := 24) (by omega) (by omega))) (fun _ => pn 29 rfl ?_)
      refine e_aload_n dX7_letters_29 rfl (pn 30 rfl ?_)
      refine e_get dX7_letters_30 fl_X7_13 g1 rfl (pn 33 rfl ?_)
      refine e_iload_n dX7_letters_33 rfl (pn 34 rfl ?_)
      refine e_ic (0) dX7_letters_34 (by decide) (pn 35 rfl ?_)
      refine e_iast (k) dX7_letters_35 g2 rfl (by omega) (by omega) (pn 36 rfl ?_)
      rw [List.set_set, mz_up]
      refine s_inc [_, _, _] (1) dX7_letters_36 (by decide) rfl (Nat.le_of_ble_eq_true rfl) rfl (pn 39 rfl ?_)
      refine e_goto 23 dX7_letters_39 (by decide) ?_
      rw [nI_1]
      exact ih (k + 1) (by omega)
  refine ⟨(w.set 42 (aI 24 (fun j => if j < 24 then (0 : Int32) else mf j))).set 41 (mdF (mdS (sLet S q) x)), ?_, ?_, ?_⟩
  · refine cw_of (M := mX7_letters) fx_X7_letters (lv := [.ref 41, .int (nI q), dmy]) rfl (Nat.le_of_ble_eq_true rfl) ?_
    refine e_iload_n dX7_letters_0 rfl (pn 1 rfl ?_)
    refine e_i2l dX7_letters_1 (pn 2 rfl ?_)
    refine e_ldc2 dX7_letters_2 lk_X7_43 (pn 5 rfl ?_)
    refine e_ldc2 dX7_letters_5 lk_X7_45 (pn 8 rfl ?_)
    refine c_S1 dX7_letters_8 ml_X7_39 ms_X7_in (by decide) (q_in w (nI q) 2 4 (by decide) (by decide)) rfl rfl (Nat.le_of_ble_eq_true rfl) (pn 11 rfl ?_)
    rw [if_pos ⟨nI_le (a := 2) hq.1 (by omega), nI_le (b := 4) hq.2 (by omega)⟩]
    refine e_if_ne 16 dX7_letters_11 (by decide) (fun _ => ?_) (fun c_9 => absurd c_9 (by decide))
    refine e_aload_n dX7_letters_16 rfl (pn 17 rfl ?_)
    refine e_iload_n dX7_letters_17 rfl (pn 18 rfl ?_)
    refine e_put dX7_letters_18 fp_X7_7 hX.1.1 rfl (Nat.le_of_ble_eq_true rfl) (pn 21 rfl ?_)
    refine e_ic (0) dX7_letters_21 (by decide) (pn 22 rfl ?_)
    refine s_in [_, _, _] dX7_letters_22 (Nat.le_of_ble_eq_true rfl) rfl (pn 23 rfl ?_)
    have L := loop 24 0 (by omega)
    rw [show (fun j => if j < 0 then (0 : Int32) else mf j) = mf from rfl] at L
    refine pw ?_ L
    exact (set_id (gne (by decide) hX.1.2.1)).symm
  · exact ((FM.rf w).set (by decide) hX.1.2.1 (aI 24 (fun j => if j < 24 then (0 : Int32) else mf j)) rfl).set (by decide) (gne (by decide) hX.1.1) _ rfl
  · refine ⟨hS.let hq, x, (fun j => if j < 24 then (0 : Int32) else mf j), lf, E, nl, g, f, ?_, ?_, ?_⟩
    · exact ⟨⟨gse (gne (by decide) hX.1.1), gne (by decide) (gse hX.1.2.1), gne (by decide) (gne (by decide) hX.1.2.2)⟩, gne (by decide) (gne (by decide) hX.2.1), gne (by decide) (gne (by decide) hX.2.2.1), gne (by decide) (gne (by decide) hX.2.2.2.1), gne (by decide) (gne (by decide) hX.2.2.2.2)⟩
    · exact ⟨fun k hk => ⟨if_pos (by omega), by simp, fun j hj => absurd hj (Nat.not_lt_zero j)⟩, fun k hk => absurd hk (Nat.not_lt_zero k)⟩
    · exact fun h => absurd h (Nat.lt_irrefl 0)
/-! at -/
theorem m1_le {j : Nat} (hj : j < 2 ^ 31) : (-1 : Int32) ≤ nI j := by
  have h := nI_pos' hj
  have e1 : (0 : Int32).toInt = 0 := by decide
  have e2 : (-1 : Int32).toInt = -1 := by decide
  rw [fa_le] at h ⊢
  omega
theorem M_at0 (w : Wd) {s i : Int32} (h : ¬ (rOK s ∧ (-1 : Int32) ≤ i)) : CW mX7_at [.ref 41, .int s, .int i] w (some (.int (-1))) w := by
  refine cw_of (M := mX7_at) fx_X7_at (lv := [.ref 41, .int s, .int i]) rfl (Nat.le_of_ble_eq_true rfl) ?_
  refine e_iload_n dX7_at_0 rfl (pn 1 rfl ?_)
  refine c_S1 dX7_at_1 ml_X7_53 ms_X7_isRegister (by decide) (q_isR w s) rfl rfl (Nat.le_of_ble_eq_true rfl) (pn 4 rfl ?_)
  by_cases hs : rOK s
  · rw [show iR s = 1 from if_pos hs]
    refine e_if_eq 12 dX7_at_4 (by decide) (fun c_9 => absurd c_9 (by decide)) (fun _ => pn 7 rfl ?_)
    refine e_iload_n dX7_at_7 rfl (pn 8 rfl ?_)
    refine e_ic (-1) dX7_at_8 (by decide) (pn 9 rfl ?_)
    refine e_icmp_ge 14 dX7_at_9 (by decide) (fun c_9 => absurd c_9 (fun e => h ⟨hs, e⟩)) (fun _ => pn 12 rfl ?_)
    refine e_ic (-1) dX7_at_12 (by decide) (pn 13 rfl ?_)
    exact e_iret dX7_at_13 rfl rfl rfl
  · rw [iR0 hs]
    refine e_if_eq 12 dX7_at_4 (by decide) (fun _ => ?_) (fun c_9 => absurd (by decide) c_9)
    refine e_ic (-1) dX7_at_12 (by decide) (pn 13 rfl ?_)
    exact e_iret dX7_at_13 rfl rfl rfl
theorem M_at1 {w : Wd} {S : St} (h : MI w S) {s : Nat} (hs : s < 12) : CW mX7_at [.ref 41, .int (nI s), .int (-1)] w (some (.int (nI (S.2.1 s).length))) w := by
  obtain ⟨hS, x, mf, lf, E, nl, g, f, hX, hW, hE⟩ := h
  refine cw_of (M := mX7_at) fx_X7_at (lv := [.ref 41, .int (nI s), .int (-1)]) rfl (Nat.le_of_ble_eq_true rfl) ?_
  refine e_iload_n dX7_at_0 rfl (pn 1 rfl ?_)
  refine c_S1 dX7_at_1 ml_X7_53 ms_X7_isRegister (by decide) (q_isR w _) rfl rfl (Nat.le_of_ble_eq_true rfl) (pn 4 rfl ?_)
  rw [iR1 hs]
  refine e_if_eq 12 dX7_at_4 (by decide) (fun c_9 => absurd c_9 (by decide)) (fun _ => pn 7 rfl ?_)
  refine e_iload_n dX7_at_7 rfl (pn 8 rfl ?_)
  refine e_ic (-1) dX7_at_8 (by decide) (pn 9 rfl ?_)
  refine e_icmp_ge 14 dX7_at_9 (by decide) (fun _ => ?_) (fun c_9 => absurd (by decide) c_9)
  refine e_iload_n dX7_at_14 rfl (pn 15 rfl ?_)
  refine e_if_ge 27 dX7_at_15 (by decide) (fun c_9 => absurd c_9 (by decide)) (fun _ => pn 18 rfl ?_)
  refine e_aload_n dX7_at_18 rfl (pn 19 rfl ?_)
  refine e_get dX7_at_19 fl_X7_13 hX.1.1 rfl (pn 22 rfl ?_)
  refine e_iload_n dX7_at_22 rfl (pn 23 rfl ?_)
  refine e_iald (s) dX7_at_23 hX.1.2.1 rfl (by omega) (by omega) (pn 24 rfl ?_)
  refine e_goto 53 dX7_at_24 (by decide) ?_
  exact e_iret dX7_at_53 rfl (by rw [(hW.1 s hs).1]) rfl
theorem M_at2 {w : Wd} {S : St} (h : MI w S) {s j : Nat} (hs : s < 12) (hj : j < 2 ^ 31) : CW mX7_at [.ref 41, .int (nI s), .int (nI j)] w (some (.int (if j < (S.2.1 s).length then nI ((S.2.1 s).getD j 0) else -4))) w := by
  obtain ⟨hS, x, mf, lf, E, nl, g, f, hX, hW, hE⟩ := h
  have hu := hW.1 s hs
  have b1 := (hS.w hs).1
  refine cw_of (M := mX7_at) fx_X7_at (lv := [.ref 41, .int (nI s), .int (nI j)]) rfl (Nat.le_of_ble_eq_true rfl) ?_
  refine e_iload_n dX7_at_0 rfl (pn 1 rfl ?_)
  refine c_S1 dX7_at_1 ml_X7_53 ms_X7_isRegister (by decide) (q_isR w _) rfl rfl (Nat.le_of_ble_eq_true rfl) (pn 4 rfl ?_)
  rw [iR1 hs]
  refine e_if_eq 12 dX7_at_4 (by decide) (fun c_9 => absurd c_9 (by decide)) (fun _ => pn 7 rfl ?_)
  refine e_iload_n dX7_at_7 rfl (pn 8 rfl ?_)
  refine e_ic (-1) dX7_at_8 (by decide) (pn 9 rfl ?_)
  refine e_icmp_ge 14 dX7_at_9 (by decide) (fun _ => ?_) (fun c_9 => absurd (m1_le hj) c_9)
  refine e_iload_n dX7_at_14 rfl (pn 15 rfl ?_)
  refine e_if_ge 27 dX7_at_15 (by decide) (fun _ => ?_) (fun c_9 => absurd (nI_pos' hj) c_9)
  refine e_iload_n dX7_at_27 rfl (pn 28 rfl ?_)
  refine e_aload_n dX7_at_28 rfl (pn 29 rfl ?_)
  refine e_get dX7_at_29 fl_X7_13 hX.1.1 rfl (pn 32 rfl ?_)
  refine e_iload_n dX7_at_32 rfl (pn 33 rfl ?_)
  refine e_iald (s) dX7_at_33 hX.1.2.1 rfl (by omega) (by omega) (pn 34 rfl ?_)
  rw [hu.1]
  refine e_icmp_ge 51 dX7_at_34 (by decide) (fun c34 => ?_) (fun c34 => pn 37 rfl ?_)
  · have hc : ¬ j < (S.2.1 s).length := fun e => nI_ge e (by omega) c34
    refine e_bi (-4) dX7_at_51 (by decide) (pn 53 rfl ?_)
    exact e_iret dX7_at_53 rfl (by rw [if_neg hc]) rfl
  · have hc : j < (S.2.1 s).length := Nat.lt_of_not_le (fun e => c34 (nI_le e (by omega)))
    refine e_aload_n dX7_at_37 rfl (pn 38 rfl ?_)
    refine e_get dX7_at_38 fl_X7_17 hX.1.1 rfl (pn 41 rfl ?_)
    refine e_bi (30) dX7_at_41 (by decide) (pn 43 rfl ?_)
    refine e_iload_n dX7_at_43 rfl (pn 44 rfl ?_)
    refine e_imul dX7_at_44 (pn 45 rfl ?_)
    refine e_iload_n dX7_at_45 rfl (pn 46 rfl ?_)
    refine e_iadd dX7_at_46 (pn 47 rfl ?_)
    refine e_iald (30 * s + j) dX7_at_47 hX.1.2.2 (c30 s j) (by omega) (by omega) (pn 48 rfl ?_)
    refine e_goto 53 dX7_at_48 (by decide) ?_
    exact e_iret dX7_at_53 rfl (by rw [if_pos hc, hu.2.2 j hc]) rfl
/-! sum, isOf -/
theorem M_sum0 (w : Wd) {s : Int32} (h : ¬ rOK s) : CW mX7_sum [.ref 41, .int s] w (some (.int (-1))) w := by
  refine cw_of (M := mX7_sum) fx_X7_sum (lv := [.ref 41, .int s]) rfl (Nat.le_of_ble_eq_true rfl) ?_
  refine e_iload_n dX7_sum_0 rfl (pn 1 rfl ?_)
  refine c_S1 dX7_sum_1 ml_X7_53 ms_X7_isRegister (by decide) (q_isR w s) rfl rfl (Nat.le_of_ble_eq_true rfl) (pn 4 rfl ?_)
  rw [iR0 h]
  refine e_if_ne 11 dX7_sum_4 (by decide) (fun c_9 => absurd c_9 (by decide)) (fun _ => pn 7 rfl ?_)
  refine e_ic (-1) dX7_sum_7 (by decide) (pn 8 rfl ?_)
  refine e_goto 33 dX7_sum_8 (by decide) ?_
  exact e_iret dX7_sum_33 rfl rfl rfl
theorem M_sum1 {w : Wd} {S : St} (h : MI w S) {s : Nat} (hs : s < 12) : CW mX7_sum [.ref 41, .int (nI s)] w (some (.int (if S.2.2.1.1 = 0 then -2 else nI (smN S.1 (S.2.1 s) (S.2.1 s).length % S.2.2.1.2.1)))) w := by
  obtain ⟨hS, x, mf, lf, E, nl, g, f, hX, hW, hE⟩ := h
  have ok := hS.w hs
  have b1 := ok.1
  refine cw_of (M := mX7_sum) fx_X7_sum (lv := [.ref 41, .int (nI s)]) rfl (Nat.le_of_ble_eq_true rfl) ?_
  refine e_iload_n dX7_sum_0 rfl (pn 1 rfl ?_)
  refine c_S1 dX7_sum_1 ml_X7_53 ms_X7_isRegister (by decide) (q_isR w _) rfl rfl (Nat.le_of_ble_eq_true rfl) (pn 4 rfl ?_)
  rw [iR1 hs]
  refine e_if_ne 11 dX7_sum_4 (by decide) (fun _ => ?_) (fun c_9 => absurd c_9 (by decide))
  refine e_aload_n dX7_sum_11 rfl (pn 12 rfl ?_)
  refine e_get dX7_sum_12 fl_X7_47 hX.1.1 rfl (pn 15 rfl ?_)
  by_cases hn : S.2.2.1.1 = 0
  · rw [if_pos hn]
    refine e_if_ne 23 dX7_sum_15 (by decide) (fun c_9 => absurd c_9 (fun e => e (by show nI S.2.2.1.1 = 0; rw [hn]; rfl))) (fun _ => pn 18 rfl ?_)
    refine e_bi (-2) dX7_sum_18 (by decide) (pn 20 rfl ?_)
    refine e_goto 33 dX7_sum_20 (by decide) ?_
    exact e_iret dX7_sum_33 rfl rfl rfl
  · rw [if_neg hn]
    obtain ⟨⟨c1, c2, c3⟩, -⟩ := hS.2.2.1 (Nat.pos_of_ne_zero hn)
    refine e_if_ne 23 dX7_sum_15 (by decide) (fun _ => ?_) (fun c_9 => absurd c_9 (nI_ne0 (Nat.pos_of_ne_zero hn) (by show S.2.2.1.1 < 2 ^ 31; omega)))
    have s1 := smN_le (q := S.1) ok.2 (S.2.1 s).length
    have s2 : 4 * (S.2.1 s).length * (S.2.1 s).length ≤ 4 * 30 * 30 := Nat.mul_le_mul (by omega) (by omega)
    refine e_aload_n dX7_sum_23 rfl (pn 24 rfl ?_)
    refine e_iload_n dX7_sum_24 rfl (pn 25 rfl ?_)
    refine c_V1 dX7_sum_25 ml_X7_72 mv_X7_sumOf (by decide) (q_sumOf hX.1 (show (mdS S x).1 ≤ 4 from hS.1.2) (show s < 24 by omega) (hW.1 s hs) ok.2) hX.1.1 rfl rfl (Nat.le_of_ble_eq_true rfl) (pn 28 rfl ?_)
    refine e_aload_n dX7_sum_28 rfl (pn 29 rfl ?_)
    refine e_get dX7_sum_29 fl_X7_76 hX.1.1 rfl (pn 32 rfl ?_)
    refine e_irem dX7_sum_32 (nI_ne0 (show 0 < S.2.2.1.2.1 by omega) (show S.2.2.1.2.1 < 2 ^ 31 by omega)) (pn 33 rfl ?_)
    exact e_iret dX7_sum_33 rfl (by show some (Value.int _) = some (Value.int (nI (smN S.1 (S.2.1 s) (S.2.1 s).length) - nI (smN S.1 (S.2.1 s) (S.2.1 s).length) / nI S.2.2.1.2.1 * nI S.2.2.1.2.1)); rw [pk_rem (by omega) (by omega) (by omega)]) rfl
theorem SI.cD {S : St} (h : SI S) (hn : S.2.2.1.1 ≠ 0) (x : Int32) : cD (mdS S x) := by
  obtain ⟨⟨c1, c2, c3⟩, -⟩ := h.2.2.1 (Nat.pos_of_ne_zero hn)
  exact ⟨h.1, ⟨Nat.pos_of_ne_zero hn, c1⟩, c2, c3⟩
theorem M_isOf0 (w : Wd) {s : Int32} (h : ¬ rOK s) : CW mX7_isOf [.ref 41, .int s] w (some (.int (-1))) w := by
  refine cw_of (M := mX7_isOf) fx_X7_isOf (lv := [.ref 41, .int s]) rfl (Nat.le_of_ble_eq_true rfl) ?_
  refine e_iload_n dX7_isOf_0 rfl (pn 1 rfl ?_)
  refine c_S1 dX7_isOf_1 ml_X7_53 ms_X7_isRegister (by decide) (q_isR w s) rfl rfl (Nat.le_of_ble_eq_true rfl) (pn 4 rfl ?_)
  rw [iR0 h]
  refine e_if_ne 11 dX7_isOf_4 (by decide) (fun c_9 => absurd c_9 (by decide)) (fun _ => pn 7 rfl ?_)
  refine e_ic (-1) dX7_isOf_7 (by decide) (pn 8 rfl ?_)
  refine e_goto 36 dX7_isOf_8 (by decide) ?_
  exact e_iret dX7_isOf_36 rfl rfl rfl
theorem M_isOf1 {w : Wd} {S : St} (h : MI w S) {s : Nat} (hs : s < 12) : CW mX7_isOf [.ref 41, .int (nI s)] w (some (.int (if S.2.2.1.1 = 0 then -2 else if isM (mdS S 0) (S.2.1 s) then 1 else 0))) w := by
  obtain ⟨hS, x, mf, lf, E, nl, g, f, hX, hW, hE⟩ := h
  have ok := hS.w hs
  have b1 := ok.1
  refine cw_of (M := mX7_isOf) fx_X7_isOf (lv := [.ref 41, .int (nI s)]) rfl (Nat.le_of_ble_eq_true rfl) ?_
  refine e_iload_n dX7_isOf_0 rfl (pn 1 rfl ?_)
  refine c_S1 dX7_isOf_1 ml_X7_53 ms_X7_isRegister (by decide) (q_isR w _) rfl rfl (Nat.le_of_ble_eq_true rfl) (pn 4 rfl ?_)
  rw [iR1 hs]
  refine e_if_ne 11 dX7_isOf_4 (by decide) (fun _ => ?_) (fun c_9 => absurd c_9 (by decide))
  refine e_aload_n dX7_isOf_11 rfl (pn 12 rfl ?_)
  refine e_get dX7_isOf_12 fl_X7_47 hX.1.1 rfl (pn 15 rfl ?_)
  by_cases hn : S.2.2.1.1 = 0
  · rw [if_pos hn]
    refine e_if_ne 23 dX7_isOf_15 (by decide) (fun c_9 => absurd c_9 (fun e => e (by show nI S.2.2.1.1 = 0; rw [hn]; rfl))) (fun _ => pn 18 rfl ?_)
    refine e_bi (-2) dX7_isOf_18 (by decide) (pn 20 rfl ?_)
    refine e_goto 36 dX7_isOf_20 (by decide) ?_
    exact e_iret dX7_isOf_36 rfl rfl rfl
  · rw [if_neg hn]
    have hcd := hS.cD hn x
    have c1 := hcd.2.1.2
    refine e_if_ne 23 dX7_isOf_15 (by decide) (fun _ => ?_) (fun c_9 => absurd c_9 (nI_ne0 (Nat.pos_of_ne_zero hn) (by show S.2.2.1.1 < 2 ^ 31; have c1 : S.2.2.1.1 ≤ 16 := c1; omega)))
    have C := q_isCode hX.1 hcd (show s < 24 by omega) (hW.1 s hs) ok.2
    by_cases hm : isM (mdS S 0) (S.2.1 s)
    · rw [if_pos (show isM (mdS S x) (S.2.1 s) from hm)] at C
      rw [if_pos hm]
      refine e_aload_n dX7_isOf_23 rfl (pn 24 rfl ?_)
      refine e_iload_n dX7_isOf_24 rfl (pn 25 rfl ?_)
      refine c_V1 dX7_isOf_25 ml_X7_107 mv_X7_isCode (by decide) C hX.1.1 rfl rfl (Nat.le_of_ble_eq_true rfl) (pn 28 rfl ?_)
      refine e_if_eq 35 dX7_isOf_28 (by decide) (fun c_9 => absurd c_9 (by decide)) (fun _ => pn 31 rfl ?_)
      refine e_ic (1) dX7_isOf_31 (by decide) (pn 32 rfl ?_)
      refine e_goto 36 dX7_isOf_32 (by decide) ?_
      exact e_iret dX7_isOf_36 rfl rfl rfl
    · rw [if_neg (show ¬ isM (mdS S x) (S.2.1 s) from hm)] at C
      rw [if_neg hm]
      refine e_aload_n dX7_isOf_23 rfl (pn 24 rfl ?_)
      refine e_iload_n dX7_isOf_24 rfl (pn 25 rfl ?_)
      refine c_V1 dX7_isOf_25 ml_X7_107 mv_X7_isCode (by decide) C hX.1.1 rfl rfl (Nat.le_of_ble_eq_true rfl) (pn 28 rfl ?_)
      refine e_if_eq 35 dX7_isOf_28 (by decide) (fun _ => ?_) (fun c_9 => absurd (by decide) c_9)
      refine e_ic (0) dX7_isOf_35 (by decide) (pn 36 rfl ?_)
      exact e_iret dX7_isOf_36 rfl rfl rfl
/-! liesIn, between, by -/
theorem r2_cases {s t : Int32} (h : ¬ (rOK s ∧ rOK t)) : ¬ rOK s ∨ (rOK s ∧ ¬ rOK t) := by
  by_cases hs : rOK s
  · exact Or.inr ⟨hs, fun e => h ⟨hs, e⟩⟩
  · exact Or.inl hs
theorem iRp {s : Int32} (h : rOK s) : iR s = 1 := if_pos h
theorem M_lies0 (w : Wd) {s t : Int32} (h : ¬ (rOK s ∧ rOK t)) : CW mX7_liesIn [.ref 41, .int s, .int t] w (some (.long (-1))) w := by
  refine cw_of (M := mX7_liesIn) fx_X7_liesIn (lv := [.ref 41, .int s, .int t]) rfl (Nat.le_of_ble_eq_true rfl) ?_
  refine e_iload_n dX7_liesIn_0 rfl (pn 1 rfl ?_)
  refine c_S1 dX7_liesIn_1 ml_X7_53 ms_X7_isRegister (by decide) (q_isR w s) rfl rfl (Nat.le_of_ble_eq_true rfl) (pn 4 rfl ?_)
  rcases r2_cases h with hs | ⟨hs, ht⟩
  · rw [iR0 hs]
    refine e_if_eq 23 dX7_liesIn_4 (by decide) (fun _ => ?_) (fun c_9 => absurd (by decide) c_9)
    refine e_ldc2 dX7_liesIn_23 lk_X7_124 (pn 26 rfl ?_)
    exact e_lret dX7_liesIn_26 rfl rfl rfl
  · rw [iRp hs]
    refine e_if_eq 23 dX7_liesIn_4 (by decide) (fun c_9 => absurd c_9 (by decide)) (fun _ => pn 7 rfl ?_)
    refine e_iload_n dX7_liesIn_7 rfl (pn 8 rfl ?_)
    refine c_S1 dX7_liesIn_8 ml_X7_53 ms_X7_isRegister (by decide) (q_isR w t) rfl rfl (Nat.le_of_ble_eq_true rfl) (pn 11 rfl ?_)
    rw [iR0 ht]
    refine e_if_eq 23 dX7_liesIn_11 (by decide) (fun _ => ?_) (fun c_9 => absurd (by decide) c_9)
    refine e_ldc2 dX7_liesIn_23 lk_X7_124 (pn 26 rfl ?_)
    exact e_lret dX7_liesIn_26 rfl rfl rfl
theorem MI.mT {w : Wd} {S : St} (hS : SI S) {x : Int32} {mf lf E nl : Nat → Int32} {g : Nat → Int64} {f : Nat → Int32} (hX : MX w S x mf lf E nl g f) (hW : MW S mf lf) {s t : Nat} (hs : s < 12) (ht : t < 12) : mT w (mdS S x) mf lf s t (S.2.1 s) (S.2.1 t) :=
  ⟨hX.1, ⟨by omega, hW.1 s hs, hS.w hs⟩, by omega, hW.1 t ht, hS.w ht⟩
theorem M_lies1 {w : Wd} {S : St} (h : MI w S) {s t : Nat} (hs : s < 12) (ht : t < 12) : ∃ (g : Nat → Int64) (w2 : Wd), CW mX7_liesIn [.ref 41, .int (nI s), .int (nI t)] w (some (.long (lyO (S.2.1 s) (S.2.1 t) ((S.2.1 s).length + 1) g 0))) w2 ∧ FM w w2 ∧ MI w2 S := by
  obtain ⟨hS, x, mf, lf, E, nl, g, f, hX, hW, hE⟩ := h
  refine ⟨g, _, ?_, hX.F46 (FM.rf w) _, hS, x, mf, lf, E, nl, _, f, hX.s46 (lyO (S.2.1 s) (S.2.1 t) ((S.2.1 s).length + 1) g), hW, hE⟩
  refine cw_of (M := mX7_liesIn) fx_X7_liesIn (lv := [.ref 41, .int (nI s), .int (nI t)]) rfl (Nat.le_of_ble_eq_true rfl) ?_
  refine e_iload_n dX7_liesIn_0 rfl (pn 1 rfl ?_)
  refine c_S1 dX7_liesIn_1 ml_X7_53 ms_X7_isRegister (by decide) (q_isR w _) rfl rfl (Nat.le_of_ble_eq_true rfl) (pn 4 rfl ?_)
  rw [iR1 hs]
  refine e_if_eq 23 dX7_liesIn_4 (by decide) (fun c_9 => absurd c_9 (by decide)) (fun _ => pn 7 rfl ?_)
  refine e_iload_n dX7_liesIn_7 rfl (pn 8 rfl ?_)
  refine c_S1 dX7_liesIn_8 ml_X7_53 ms_X7_isRegister (by decide) (q_isR w _) rfl rfl (Nat.le_of_ble_eq_true rfl) (pn 11 rfl ?_)
  rw [iR1 ht]
  refine e_if_eq 23 dX7_liesIn_11 (by decide) (fun c_9 => absurd c_9 (by decide)) (fun _ => pn 14 rfl ?_)
  refine e_aload_n dX7_liesIn_14 rfl (pn 15 rfl ?_)
  refine e_iload_n dX7_liesIn_15 rfl (pn 16 rfl ?_)
  refine e_iload_n dX7_liesIn_16 rfl (pn 17 rfl ?_)
  refine c_V1 dX7_liesIn_17 ml_X7_120 mv_X7_lies (by decide) (q_lies (MI.mT hS hX hW hs ht) hX.2.2.2.1) hX.1.1 rfl rfl (Nat.le_of_ble_eq_true rfl) (pn 20 rfl ?_)
  refine e_goto 26 dX7_liesIn_20 (by decide) ?_
  exact e_lret dX7_liesIn_26 rfl rfl rfl
theorem M_betw0 (w : Wd) {s t v : Int32} (h : ¬ (rOK s ∧ rOK t ∧ (0 ≤ v ∧ v ≤ 1))) : CW mX7_between [.ref 41, .int s, .int t, .int v] w (some (.int (-1))) w := by
  refine cw_of (M := mX7_between) fx_X7_between (lv := [.ref 41, .int s, .int t, .int v]) rfl (Nat.le_of_ble_eq_true rfl) ?_
  refine e_iload_n dX7_between_0 rfl (pn 1 rfl ?_)
  refine c_S1 dX7_between_1 ml_X7_53 ms_X7_isRegister (by decide) (q_isR w s) rfl rfl (Nat.le_of_ble_eq_true rfl) (pn 4 rfl ?_)
  by_cases hs : rOK s
  · rw [iRp hs]
    refine e_if_eq 24 dX7_between_4 (by decide) (fun c_9 => absurd c_9 (by decide)) (fun _ => pn 7 rfl ?_)
    refine e_iload_n dX7_between_7 rfl (pn 8 rfl ?_)
    refine c_S1 dX7_between_8 ml_X7_53 ms_X7_isRegister (by decide) (q_isR w t) rfl rfl (Nat.le_of_ble_eq_true rfl) (pn 11 rfl ?_)
    by_cases ht : rOK t
    · rw [iRp ht]
      refine e_if_eq 24 dX7_between_11 (by decide) (fun c_9 => absurd c_9 (by decide)) (fun _ => pn 14 rfl ?_)
      refine e_iload_n dX7_between_14 rfl (pn 15 rfl ?_)
      refine e_i2l dX7_between_15 (pn 16 rfl ?_)
      refine e_lc (0) dX7_between_16 (by decide) (pn 17 rfl ?_)
      refine e_lc (1) dX7_between_17 (by decide) (pn 18 rfl ?_)
      refine c_S1 dX7_between_18 ml_X7_39 ms_X7_in (by decide) (q_in w v 0 1 (by decide) (by decide)) rfl rfl (Nat.le_of_ble_eq_true rfl) (pn 21 rfl ?_)
      rw [if_neg (fun e => h ⟨hs, ht, e⟩)]
      refine e_if_ne 26 dX7_between_21 (by decide) (fun c_9 => absurd c_9 (by decide)) (fun _ => pn 24 rfl ?_)
      refine e_ic (-1) dX7_between_24 (by decide) (pn 25 rfl ?_)
      exact e_iret dX7_between_25 rfl rfl rfl
    · rw [iR0 ht]
      refine e_if_eq 24 dX7_between_11 (by decide) (fun _ => ?_) (fun c_9 => absurd (by decide) c_9)
      refine e_ic (-1) dX7_between_24 (by decide) (pn 25 rfl ?_)
      exact e_iret dX7_between_25 rfl rfl rfl
  · rw [iR0 hs]
    refine e_if_eq 24 dX7_between_4 (by decide) (fun _ => ?_) (fun c_9 => absurd (by decide) c_9)
    refine e_ic (-1) dX7_between_24 (by decide) (pn 25 rfl ?_)
    exact e_iret dX7_between_25 rfl rfl rfl
theorem M_betw1 {w : Wd} {S : St} (h : MI w S) {s t : Nat} (hs : s < 12) (ht : t < 12) : ∃ (f : Nat → Int32) (w2 : Wd), CW mX7_between [.ref 41, .int (nI s), .int (nI t), .int 0] w (some (.int (meO (S.2.1 s) (S.2.1 t) ((S.2.1 s).length + 1) f 0))) w2 ∧ FM w w2 ∧ MI w2 S := by
  obtain ⟨hS, x, mf, lf, E, nl, g, f, hX, hW, hE⟩ := h
  refine ⟨f, _, ?_, hX.F47 (FM.rf w) _, hS, x, mf, lf, E, nl, _, _, hX.s47 (meO (S.2.1 s) (S.2.1 t) ((S.2.1 s).length + 1) f), hW, hE⟩
  refine cw_of (M := mX7_between) fx_X7_between (lv := [.ref 41, .int (nI s), .int (nI t), .int 0]) rfl (Nat.le_of_ble_eq_true rfl) ?_
  refine e_iload_n dX7_between_0 rfl (pn 1 rfl ?_)
  refine c_S1 dX7_between_1 ml_X7_53 ms_X7_isRegister (by decide) (q_isR w _) rfl rfl (Nat.le_of_ble_eq_true rfl) (pn 4 rfl ?_)
  rw [iR1 hs]
  refine e_if_eq 24 dX7_between_4 (by decide) (fun c_9 => absurd c_9 (by decide)) (fun _ => pn 7 rfl ?_)
  refine e_iload_n dX7_between_7 rfl (pn 8 rfl ?_)
  refine c_S1 dX7_between_8 ml_X7_53 ms_X7_isRegister (by decide) (q_isR w _) rfl rfl (Nat.le_of_ble_eq_true rfl) (pn 11 rfl ?_)
  rw [iR1 ht]
  refine e_if_eq 24 dX7_between_11 (by decide) (fun c_9 => absurd c_9 (by decide)) (fun _ => pn 14 rfl ?_)
  refine e_iload_n dX7_between_14 rfl (pn 15 rfl ?_)
  refine e_i2l dX7_between_15 (pn 16 rfl ?_)
  refine e_lc (0) dX7_between_16 (by decide) (pn 17 rfl ?_)
  refine e_lc (1) dX7_between_17 (by decide) (pn 18 rfl ?_)
  refine c_S1 dX7_between_18 ml_X7_39 ms_X7_in (by decide) (q_in w 0 0 1 (by decide) (by decide)) rfl rfl (Nat.le_of_ble_eq_true rfl) (pn 21 rfl ?_)
  rw [if_pos (by decide)]
  refine e_if_ne 26 dX7_between_21 (by decide) (fun _ => ?_) (fun c_9 => absurd c_9 (by decide))
  refine e_iload_n dX7_between_26 rfl (pn 27 rfl ?_)
  refine e_if_ne 37 dX7_between_27 (by decide) (fun c_9 => absurd c_9 (by decide)) (fun _ => pn 30 rfl ?_)
  refine e_aload_n dX7_between_30 rfl (pn 31 rfl ?_)
  refine e_iload_n dX7_between_31 rfl (pn 32 rfl ?_)
  refine e_iload_n dX7_between_32 rfl (pn 33 rfl ?_)
  refine c_V1 dX7_between_33 ml_X7_132 mv_X7_editsBetween (by decide) (q_editsB (MI.mT hS hX hW hs ht) hX.2.2.2.2) hX.1.1 rfl rfl (Nat.le_of_ble_eq_true rfl) (pn 36 rfl ?_)
  exact e_iret dX7_between_36 rfl rfl rfl
theorem M_betw2 {w : Wd} {S : St} (h : MI w S) {s t : Nat} (hs : s < 12) (ht : t < 12) : ∃ (w2 : Wd), CW mX7_between [.ref 41, .int (nI s), .int (nI t), .int 1] w (some (.int (nI (S.2.1 s).length + nI (S.2.1 t).length - nI (lcX (S.2.1 s) (S.2.1 t) 0 0)))) w2 ∧ FM w w2 ∧ MI w2 S := by
  obtain ⟨hS, x, mf, lf, E, nl, g, f, hX, hW, hE⟩ := h
  have X2 := hX.s47 (mlO (S.2.1 s) (S.2.1 t) ((S.2.1 s).length + 1) f)
  refine ⟨_, ?_, hX.F47 (FM.rf w) _, hS, x, mf, lf, E, nl, _, _, X2, hW, hE⟩
  have b1 := (hS.w hs).1
  have b2 := (hS.w ht).1
  refine cw_of (M := mX7_between) fx_X7_between (lv := [.ref 41, .int (nI s), .int (nI t), .int 1]) rfl (Nat.le_of_ble_eq_true rfl) ?_
  refine e_iload_n dX7_between_0 rfl (pn 1 rfl ?_)
  refine c_S1 dX7_between_1 ml_X7_53 ms_X7_isRegister (by decide) (q_isR w _) rfl rfl (Nat.le_of_ble_eq_true rfl) (pn 4 rfl ?_)
  rw [iR1 hs]
  refine e_if_eq 24 dX7_between_4 (by decide) (fun c_9 => absurd c_9 (by decide)) (fun _ => pn 7 rfl ?_)
  refine e_iload_n dX7_between_7 rfl (pn 8 rfl ?_)
  refine c_S1 dX7_between_8 ml_X7_53 ms_X7_isRegister (by decide) (q_isR w _) rfl rfl (Nat.le_of_ble_eq_true rfl) (pn 11 rfl ?_)
  rw [iR1 ht]
  refine e_if_eq 24 dX7_between_11 (by decide) (fun c_9 => absurd c_9 (by decide)) (fun _ => pn 14 rfl ?_)
  refine e_iload_n dX7_between_14 rfl (pn 15 rfl ?_)
  refine e_i2l dX7_between_15 (pn 16 rfl ?_)
  refine e_lc (0) dX7_between_16 (by decide) (pn 17 rfl ?_)
  refine e_lc (1) dX7_between_17 (by decide) (pn 18 rfl ?_)
  refine c_S1 dX7_between_18 ml_X7_39 ms_X7_in (by decide) (q_in w 1 0 1 (by decide) (by decide)) rfl rfl (Nat.le_of_ble_eq_true rfl) (pn 21 rfl ?_)
  rw [if_pos (by decide)]
  refine e_if_ne 26 dX7_between_21 (by decide) (fun _ => ?_) (fun c_9 => absurd c_9 (by decide))
  refine e_iload_n dX7_between_26 rfl (pn 27 rfl ?_)
  refine e_if_ne 37 dX7_between_27 (by decide) (fun _ => ?_) (fun c_9 => absurd c_9 (by decide))
  refine e_aload_n dX7_between_37 rfl (pn 38 rfl ?_)
  refine e_iload_n dX7_between_38 rfl (pn 39 rfl ?_)
  refine e_iload_n dX7_between_39 rfl (pn 40 rfl ?_)
  refine c_V0 dX7_between_40 ml_X7_126 mv_X7_longests (by decide) (q_longests (MI.mT hS hX hW hs ht) hX.2.2.2.2) hX.1.1 rfl rfl (Nat.le_of_ble_eq_true rfl) (pn 43 rfl ?_)
  refine e_aload_n dX7_between_43 rfl (pn 44 rfl ?_)
  refine e_get dX7_between_44 fl_X7_13 X2.1.1 rfl (pn 47 rfl ?_)
  refine e_iload_n dX7_between_47 rfl (pn 48 rfl ?_)
  refine e_iald (s) dX7_between_48 X2.1.2.1 rfl (by omega) (by omega) (pn 49 rfl ?_)
  refine e_aload_n dX7_between_49 rfl (pn 50 rfl ?_)
  refine e_get dX7_between_50 fl_X7_13 X2.1.1 rfl (pn 53 rfl ?_)
  refine e_iload_n dX7_between_53 rfl (pn 54 rfl ?_)
  refine e_iald (t) dX7_between_54 X2.1.2.1 rfl (by omega) (by omega) (pn 55 rfl ?_)
  refine e_iadd dX7_between_55 (pn 56 rfl ?_)
  refine e_aload_n dX7_between_56 rfl (pn 57 rfl ?_)
  refine e_get dX7_between_57 fl_X7_34 X2.1.1 rfl (pn 60 rfl ?_)
  refine e_ic (0) dX7_between_60 (by decide) (pn 61 rfl ?_)
  refine e_iald (0) dX7_between_61 X2.2.2.2.2 rfl (by decide) (by omega) (pn 62 rfl ?_)
  refine e_isub dX7_between_62 (pn 63 rfl ?_)
  exact e_iret dX7_between_63 rfl (by rw [(hW.1 s hs).1, (hW.1 t ht).1, ← mlO_v b1 b2 f (Nat.zero_le _) (Nat.zero_le _)]) rfl
theorem M_by0 (w : Wd) {s n v : Int32} (h : ¬ (rOK s ∧ (0 ≤ n ∧ n ≤ 6) ∧ (0 ≤ v ∧ v ≤ 1))) : CW mX7_by [.ref 41, .int s, .int n, .int v] w (some (.long (-1))) w := by
  refine cw_of (M := mX7_by) fx_X7_by (lv := [.ref 41, .int s, .int n, .int v]) rfl (Nat.le_of_ble_eq_true rfl) ?_
  refine e_iload_n dX7_by_0 rfl (pn 1 rfl ?_)
  refine c_S1 dX7_by_1 ml_X7_53 ms_X7_isRegister (by decide) (q_isR w s) rfl rfl (Nat.le_of_ble_eq_true rfl) (pn 4 rfl ?_)
  by_cases hs : rOK s
  · rw [iRp hs]
    refine e_if_eq 29 dX7_by_4 (by decide) (fun c_9 => absurd c_9 (by decide)) (fun _ => pn 7 rfl ?_)
    refine e_iload_n dX7_by_7 rfl (pn 8 rfl ?_)
    refine e_i2l dX7_by_8 (pn 9 rfl ?_)
    refine e_lc (0) dX7_by_9 (by decide) (pn 10 rfl ?_)
    refine e_ldc2 dX7_by_10 lk_X7_136 (pn 13 rfl ?_)
    refine c_S1 dX7_by_13 ml_X7_39 ms_X7_in (by decide) (q_in w n 0 6 (by decide) (by decide)) rfl rfl (Nat.le_of_ble_eq_true rfl) (pn 16 rfl ?_)
    by_cases hn : 0 ≤ n ∧ n ≤ 6
    · rw [if_pos hn]
      refine e_if_eq 29 dX7_by_16 (by decide) (fun c_9 => absurd c_9 (by decide)) (fun _ => pn 19 rfl ?_)
      refine e_iload_n dX7_by_19 rfl (pn 20 rfl ?_)
      refine e_i2l dX7_by_20 (pn 21 rfl ?_)
      refine e_lc (0) dX7_by_21 (by decide) (pn 22 rfl ?_)
      refine e_lc (1) dX7_by_22 (by decide) (pn 23 rfl ?_)
      refine c_S1 dX7_by_23 ml_X7_39 ms_X7_in (by decide) (q_in w v 0 1 (by decide) (by decide)) rfl rfl (Nat.le_of_ble_eq_true rfl) (pn 26 rfl ?_)
      rw [if_neg (fun e => h ⟨hs, hn, e⟩)]
      refine e_if_ne 33 dX7_by_26 (by decide) (fun c_9 => absurd c_9 (by decide)) (fun _ => pn 29 rfl ?_)
      refine e_ldc2 dX7_by_29 lk_X7_124 (pn 32 rfl ?_)
      exact e_lret dX7_by_32 rfl rfl rfl
    · rw [if_neg hn]
      refine e_if_eq 29 dX7_by_16 (by decide) (fun _ => ?_) (fun c_9 => absurd (by decide) c_9)
      refine e_ldc2 dX7_by_29 lk_X7_124 (pn 32 rfl ?_)
      exact e_lret dX7_by_32 rfl rfl rfl
  · rw [iR0 hs]
    refine e_if_eq 29 dX7_by_4 (by decide) (fun _ => ?_) (fun c_9 => absurd (by decide) c_9)
    refine e_ldc2 dX7_by_29 lk_X7_124 (pn 32 rfl ?_)
    exact e_lret dX7_by_32 rfl rfl rfl
theorem M_by1 {w : Wd} {S : St} (h : MI w S) {s n : Nat} (hs : s < 12) (hn : n ≤ 6) : CW mX7_by [.ref 41, .int (nI s), .int (nI n), .int 1] w (some (.long (gaS (nI (S.2.1 s).length + nI n) (nI S.1 - 1) (n + 1) 0 0))) w := by
  obtain ⟨hS, x, mf, lf, E, nl, g, f, hX, hW, hE⟩ := h
  refine cw_of (M := mX7_by) fx_X7_by (lv := [.ref 41, .int (nI s), .int (nI n), .int 1]) rfl (Nat.le_of_ble_eq_true rfl) ?_
  refine e_iload_n dX7_by_0 rfl (pn 1 rfl ?_)
  refine c_S1 dX7_by_1 ml_X7_53 ms_X7_isRegister (by decide) (q_isR w _) rfl rfl (Nat.le_of_ble_eq_true rfl) (pn 4 rfl ?_)
  rw [iR1 hs]
  refine e_if_eq 29 dX7_by_4 (by decide) (fun c_9 => absurd c_9 (by decide)) (fun _ => pn 7 rfl ?_)
  refine e_iload_n dX7_by_7 rfl (pn 8 rfl ?_)
  refine e_i2l dX7_by_8 (pn 9 rfl ?_)
  refine e_lc (0) dX7_by_9 (by decide) (pn 10 rfl ?_)
  refine e_ldc2 dX7_by_10 lk_X7_136 (pn 13 rfl ?_)
  refine c_S1 dX7_by_13 ml_X7_39 ms_X7_in (by decide) (q_in w (nI n) 0 6 (by decide) (by decide)) rfl rfl (Nat.le_of_ble_eq_true rfl) (pn 16 rfl ?_)
  rw [if_pos ⟨nI_pos' (by omega), nI_le (b := 6) hn (by omega)⟩]
  refine e_if_eq 29 dX7_by_16 (by decide) (fun c_9 => absurd c_9 (by decide)) (fun _ => pn 19 rfl ?_)
  refine e_iload_n dX7_by_19 rfl (pn 20 rfl ?_)
  refine e_i2l dX7_by_20 (pn 21 rfl ?_)
  refine e_lc (0) dX7_by_21 (by decide) (pn 22 rfl ?_)
  refine e_lc (1) dX7_by_22 (by decide) (pn 23 rfl ?_)
  refine c_S1 dX7_by_23 ml_X7_39 ms_X7_in (by decide) (q_in w 1 0 1 (by decide) (by decide)) rfl rfl (Nat.le_of_ble_eq_true rfl) (pn 26 rfl ?_)
  rw [if_pos (by decide)]
  refine e_if_ne 33 dX7_by_26 (by decide) (fun _ => ?_) (fun c_9 => absurd c_9 (by decide))
  refine e_iload_n dX7_by_33 rfl (pn 34 rfl ?_)
  refine e_ic (1) dX7_by_34 (by decide) (pn 35 rfl ?_)
  refine e_icmp_ne 45 dX7_by_35 (by decide) (fun c_9 => absurd c_9 (by decide)) (fun _ => pn 38 rfl ?_)
  refine e_aload_n dX7_by_38 rfl (pn 39 rfl ?_)
  refine e_iload_n dX7_by_39 rfl (pn 40 rfl ?_)
  refine e_iload_n dX7_by_40 rfl (pn 41 rfl ?_)
  refine c_V1 dX7_by_41 ml_X7_138 mv_X7_gained (by decide) (q_gained hX.1 (show s < 24 by omega) (hW.1 s hs) hn) hX.1.1 rfl rfl (Nat.le_of_ble_eq_true rfl) (pn 44 rfl ?_)
  exact e_lret dX7_by_44 rfl rfl rfl
theorem M_by2 {w : Wd} {S : St} (h : MI w S) {s n : Nat} (hs : s < 12) (hn : n ≤ 6) : ∃ (g : Nat → Int64) (w2 : Wd), CW mX7_by [.ref 41, .int (nI s), .int (nI n), .int 0] w (some (.long (if (S.2.1 s).length < n then 0 else ptO S.1 ((S.2.1 s).length - n) (S.2.1 s) ((S.2.1 s).length + 1) g ((S.2.1 s).length - n)))) w2 ∧ FM w w2 ∧ MI w2 S := by
  obtain ⟨hS, x, mf, lf, E, nl, g, f, hX, hW, hE⟩ := h
  have b1 := (hS.w hs).1
  have hu := hW.1 s hs
  have pre : ∀ {r : Option Value} {w' : Wd}, EW mX7_by none 52 [.ref 41, .int (nI s), .int (nI n), .int 0] [.int (nI (S.2.1 s).length), .int (nI n)] w r w' → CW mX7_by [.ref 41, .int (nI s), .int (nI n), .int 0] w r w' := by
    intro r w' K
    refine cw_of (M := mX7_by) fx_X7_by (lv := [.ref 41, .int (nI s), .int (nI n), .int 0]) rfl (Nat.le_of_ble_eq_true rfl) ?_
    refine e_iload_n dX7_by_0 rfl (pn 1 rfl ?_)
    refine c_S1 dX7_by_1 ml_X7_53 ms_X7_isRegister (by decide) (q_isR w _) rfl rfl (Nat.le_of_ble_eq_true rfl) (pn 4 rfl ?_)
    rw [iR1 hs]
    refine e_if_eq 29 dX7_by_4 (by decide) (fun c_9 => absurd c_9 (by decide)) (fun _ => pn 7 rfl ?_)
    refine e_iload_n dX7_by_7 rfl (pn 8 rfl ?_)
    refine e_i2l dX7_by_8 (pn 9 rfl ?_)
    refine e_lc (0) dX7_by_9 (by decide) (pn 10 rfl ?_)
    refine e_ldc2 dX7_by_10 lk_X7_136 (pn 13 rfl ?_)
    refine c_S1 dX7_by_13 ml_X7_39 ms_X7_in (by decide) (q_in w (nI n) 0 6 (by decide) (by decide)) rfl rfl (Nat.le_of_ble_eq_true rfl) (pn 16 rfl ?_)
    rw [if_pos ⟨nI_pos' (by omega), nI_le (b := 6) hn (by omega)⟩]
    refine e_if_eq 29 dX7_by_16 (by decide) (fun c_9 => absurd c_9 (by decide)) (fun _ => pn 19 rfl ?_)
    refine e_iload_n dX7_by_19 rfl (pn 20 rfl ?_)
    refine e_i2l dX7_by_20 (pn 21 rfl ?_)
    refine e_lc (0) dX7_by_21 (by decide) (pn 22 rfl ?_)
    refine e_lc (1) dX7_by_22 (by decide) (pn 23 rfl ?_)
    refine c_S1 dX7_by_23 ml_X7_39 ms_X7_in (by decide) (q_in w 0 0 1 (by decide) (by decide)) rfl rfl (Nat.le_of_ble_eq_true rfl) (pn 26 rfl ?_)
    rw [if_pos (by decide)]
    refine e_if_ne 33 dX7_by_26 (by decide) (fun _ => ?_) (fun c_9 => absurd c_9 (by decide))
    refine e_iload_n dX7_by_33 rfl (pn 34 rfl ?_)
    refine e_ic (1) dX7_by_34 (by decide) (pn 35 rfl ?_)
    refine e_icmp_ne 45 dX7_by_35 (by decide) (fun _ => ?_) (fun c_9 => absurd c_9 (by decide))
    refine e_iload_n dX7_by_45 rfl (pn 46 rfl ?_)
    refine e_aload_n dX7_by_46 rfl (pn 47 rfl ?_)
    refine e_get dX7_by_47 fl_X7_13 hX.1.1 rfl (pn 50 rfl ?_)
    refine e_iload_n dX7_by_50 rfl (pn 51 rfl ?_)
    refine e_iald (s) dX7_by_51 hX.1.2.1 rfl (by omega) (by omega) (pn 52 rfl ?_)
    rw [hu.1]
    exact K
  by_cases hl : (S.2.1 s).length < n
  · refine ⟨g, w, pre ?_, FM.rf w, hS, x, mf, lf, E, nl, g, f, hX, hW, hE⟩
    refine e_icmp_le 59 dX7_by_52 (by decide) (fun c_9 => absurd c_9 (nI_ge hl (by omega))) (fun _ => pn 55 rfl ?_)
    refine e_lc (0) dX7_by_55 (by decide) (pn 56 rfl ?_)
    refine e_goto 72 dX7_by_56 (by decide) ?_
    exact e_lret dX7_by_72 rfl (by rw [if_pos hl]) rfl
  · refine ⟨g, _, pre ?_, hX.F46 (FM.rf w) _, hS, x, mf, lf, E, nl, _, f, hX.s46 (ptO S.1 ((S.2.1 s).length - n) (S.2.1 s) ((S.2.1 s).length + 1) g), hW, hE⟩
    refine e_icmp_le 59 dX7_by_52 (by decide) (fun _ => ?_) (fun c_9 => absurd (nI_le (by omega) (by omega)) c_9)
    refine e_aload_n dX7_by_59 rfl (pn 60 rfl ?_)
    refine e_iload_n dX7_by_60 rfl (pn 61 rfl ?_)
    refine e_aload_n dX7_by_61 rfl (pn 62 rfl ?_)
    refine e_get dX7_by_62 fl_X7_13 hX.1.1 rfl (pn 65 rfl ?_)
    refine e_iload_n dX7_by_65 rfl (pn 66 rfl ?_)
    refine e_iald (s) dX7_by_66 hX.1.2.1 rfl (by omega) (by omega) (pn 67 rfl ?_)
    refine e_iload_n dX7_by_67 rfl (pn 68 rfl ?_)
    refine e_isub dX7_by_68 (pn 69 rfl ?_)
    rw [hu.1, pk_sub (show n ≤ (S.2.1 s).length by omega)]
    refine c_V1 dX7_by_69 ml_X7_141 mv_X7_parts (by decide) (q_parts hX.1 (show 2 ≤ (mdS S x).1 ∧ (mdS S x).1 ≤ 4 from hS.1) (show s < 24 by omega) hu (hS.w hs) hX.2.2.2.1 (n := (S.2.1 s).length - n) (by omega)) hX.1.1 rfl rfl (Nat.le_of_ble_eq_true rfl) (pn 72 rfl ?_)
    exact e_lret dX7_by_72 rfl (by rw [if_neg hl]) rfl
/-! traces, line, seed, count -/
theorem M_trace0 (w : Wd) {s : Int32} (h : ¬ rOK s) : CW mX7_trace [.ref 41, .int s] w (some (.int (-1))) w := by
  refine cw_of (M := mX7_trace) fx_X7_trace (lv := [.ref 41, .int s]) rfl (Nat.le_of_ble_eq_true rfl) ?_
  refine e_iload_n dX7_trace_0 rfl (pn 1 rfl ?_)
  refine c_S1 dX7_trace_1 ml_X7_53 ms_X7_isRegister (by decide) (q_isR w s) rfl rfl (Nat.le_of_ble_eq_true rfl) (pn 4 rfl ?_)
  rw [iR0 h]
  refine e_if_ne 9 dX7_trace_4 (by decide) (fun c_9 => absurd c_9 (by decide)) (fun _ => pn 7 rfl ?_)
  refine e_ic (-1) dX7_trace_7 (by decide) (pn 8 rfl ?_)
  exact e_iret dX7_trace_8 rfl rfl rfl
theorem M_trace1 {w : Wd} {S : St} (h : MI w S) {s : Nat} (hs : s < 12) (h8 : S.2.2.2.1.1 = 8) : CW mX7_trace [.ref 41, .int (nI s)] w (some (.int (-3))) w := by
  obtain ⟨hS, x, mf, lf, E, nl, g, f, hX, hW, hE⟩ := h
  refine cw_of (M := mX7_trace) fx_X7_trace (lv := [.ref 41, .int (nI s)]) rfl (Nat.le_of_ble_eq_true rfl) ?_
  refine e_iload_n dX7_trace_0 rfl (pn 1 rfl ?_)
  refine c_S1 dX7_trace_1 ml_X7_53 ms_X7_isRegister (by decide) (q_isR w _) rfl rfl (Nat.le_of_ble_eq_true rfl) (pn 4 rfl ?_)
  rw [iR1 hs]
  refine e_if_ne 9 dX7_trace_4 (by decide) (fun _ => ?_) (fun c_9 => absurd c_9 (by decide))
  refine e_aload_n dX7_trace_9 rfl (pn 10 rfl ?_)
  refine e_get dX7_trace_10 fl_X7_50 hX.1.1 rfl (pn 13 rfl ?_)
  refine e_bi (8) dX7_trace_13 (by decide) (pn 15 rfl ?_)
  refine e_icmp_ne 21 dX7_trace_15 (by decide) (fun c_9 => absurd c_9 (fun e => e (by show nI S.2.2.2.1.1 = 8; rw [h8]; rfl))) (fun _ => pn 18 rfl ?_)
  refine e_bi (-3) dX7_trace_18 (by decide) (pn 20 rfl ?_)
  exact e_iret dX7_trace_20 rfl rfl rfl
abbrev sTr (S : St) (t : Nat × (Nat → List Nat)) : St := (S.1, S.2.1, S.2.2.1, t, S.2.2.2.2)
theorem M_trace2 {w : Wd} {S : St} (h : MI w S) {s : Nat} (hs : s < 12) (h8 : S.2.2.2.1.1 < 8) : ∃ w2, CW mX7_trace [.ref 41, .int (nI s)] w (some (.int (nI (S.2.2.2.1.1 + 1)))) w2 ∧ FM w w2 ∧ MI w2 (sTr S (S.2.2.2.1.1 + 1, va_up S.2.2.2.1.2 S.2.2.2.1.1 (S.2.1 s))) := by
  obtain ⟨hS, x, mf, lf, E, nl, g, f, hX, hW, hE⟩ := h
  have X2 := hX.sA (va_up mf (12 + S.2.2.2.1.1) (mf s)) (cpF lf (12 + S.2.2.2.1.1) s 30)
  have F2 := hX.FA (FM.rf w) (va_up mf (12 + S.2.2.2.1.1) (mf s)) (cpF lf (12 + S.2.2.2.1.1) s 30)
  have X3 := X2.s41 (sTr S (S.2.2.2.1.1 + 1, va_up S.2.2.2.1.2 S.2.2.2.1.1 (S.2.1 s))) x
  refine ⟨_, ?_, X2.F41 F2 _, ?_, x, _, _, E, nl, g, f, X3, ?_, hE⟩
  · refine cw_of (M := mX7_trace) fx_X7_trace (lv := [.ref 41, .int (nI s)]) rfl (Nat.le_of_ble_eq_true rfl) ?_
    refine e_iload_n dX7_trace_0 rfl (pn 1 rfl ?_)
    refine c_S1 dX7_trace_1 ml_X7_53 ms_X7_isRegister (by decide) (q_isR w _) rfl rfl (Nat.le_of_ble_eq_true rfl) (pn 4 rfl ?_)
    rw [iR1 hs]
    refine e_if_ne 9 dX7_trace_4 (by decide) (fun _ => ?_) (fun c_9 => absurd c_9 (by decide))
    refine e_aload_n dX7_trace_9 rfl (pn 10 rfl ?_)
    refine e_get dX7_trace_10 fl_X7_50 hX.1.1 rfl (pn 13 rfl ?_)
    refine e_bi (8) dX7_trace_13 (by decide) (pn 15 rfl ?_)
    refine e_icmp_ne 21 dX7_trace_15 (by decide) (fun _ => ?_) (fun c_9 => absurd c_9 (fun e => by have := (nI_eq (a := S.2.2.2.1.1) (b := 8) (by omega) (by decide)).mp e; omega))
    have C := q_copies hX.1 (mf := mf) (lf := lf) (s := 12 + S.2.2.2.1.1) (t := s) (by omega) (by omega)
    rw [wA_id hX.1, ← nI_add 12] at C
    refine e_aload_n dX7_trace_21 rfl (pn 22 rfl ?_)
    refine e_bi (12) dX7_trace_22 (by decide) (pn 24 rfl ?_)
    refine e_aload_n dX7_trace_24 rfl (pn 25 rfl ?_)
    refine e_get dX7_trace_25 fl_X7_50 hX.1.1 rfl (pn 28 rfl ?_)
    refine e_iadd dX7_trace_28 (pn 29 rfl ?_)
    refine e_iload_n dX7_trace_29 rfl (pn 30 rfl ?_)
    refine c_V0 dX7_trace_30 ml_X7_69 mv_X7_copies (by decide) C hX.1.1 rfl rfl (Nat.le_of_ble_eq_true rfl) (pn 33 rfl ?_)
    refine e_aload_n dX7_trace_33 rfl (pn 34 rfl ?_)
    refine e_dup dX7_trace_34 rfl (pn 35 rfl ?_)
    refine e_get dX7_trace_35 fl_X7_50 X2.1.1 rfl (pn 38 rfl ?_)
    refine e_ic (1) dX7_trace_38 (by decide) (pn 39 rfl ?_)
    refine e_iadd dX7_trace_39 (pn 40 rfl ?_)
    refine e_put dX7_trace_40 fp_X7_50 X2.1.1 rfl (Nat.le_of_ble_eq_true rfl) (pn 43 rfl ?_)
    refine pw (w1 := (wA w (va_up mf (12 + S.2.2.2.1.1) (mf s)) (cpF lf (12 + S.2.2.2.1.1) s 30)).set 41 (mdF (mdS (sTr S (S.2.2.2.1.1 + 1, va_up S.2.2.2.1.2 S.2.2.2.1.1 (S.2.1 s))) x))) (by rw [show (nI (mdS S x).2.2.2.2.2.1 + 1) = nI (S.2.2.2.1.1 + 1) from nI_1 _]; rfl) ?_
    refine e_aload_n dX7_trace_43 rfl (pn 44 rfl ?_)
    refine e_get dX7_trace_44 fl_X7_50 X3.1.1 rfl (pn 47 rfl ?_)
    exact e_iret dX7_trace_47 rfl rfl rfl
  · obtain ⟨s1, s2, s3, s4, s5⟩ := hS
    refine ⟨s1, s2, s3, ⟨by show S.2.2.2.1.1 + 1 ≤ 8; omega, fun k hk => ?_⟩, s5⟩
    have hk : k < S.2.2.2.1.1 + 1 := hk
    show okQ S.1 (va_up S.2.2.2.1.2 S.2.2.2.1.1 (S.2.1 s) k)
    by_cases e : k = S.2.2.2.1.1
    · rw [e, up_eq]; exact s2 s hs
    · rw [up_ne _ _ e]; exact s4.2 k (by omega)
  · refine ⟨fun k hk => (hW.1 k hk).cpo (by omega) _, fun k hk => ?_⟩
    have hk : k < S.2.2.2.1.1 + 1 := hk
    show wM _ _ (12 + k) (va_up S.2.2.2.1.2 S.2.2.2.1.1 (S.2.1 s) k)
    by_cases e : k = S.2.2.2.1.1
    · subst e; rw [up_eq]; exact (hW.1 s hs).cp
    · rw [up_ne _ _ e]; exact (hW.2 k (by omega)).cpo (by omega) _
theorem M_noT {w : Wd} {S : St} (h : MI w S) : ∃ w2, CW mX7_noTraces [.ref 41] w (some (.int (nI S.2.2.2.1.1))) w2 ∧ FM w w2 ∧ MI w2 (sTr S (0, S.2.2.2.1.2)) := by
  obtain ⟨hS, x, mf, lf, E, nl, g, f, hX, hW, hE⟩ := h
  refine ⟨_, ?_, hX.F41 (FM.rf w) _, ⟨hS.1, hS.2.1, hS.2.2.1, ⟨Nat.zero_le _, fun k hk => absurd hk (Nat.not_lt_zero k)⟩, hS.2.2.2.2⟩, x, _, _, E, nl, g, f, hX.s41 (sTr S (0, S.2.2.2.1.2)) x, ⟨hW.1, fun k hk => absurd hk (Nat.not_lt_zero k)⟩, hE⟩
  refine cw_of (M := mX7_noTraces) fx_X7_noTraces (lv := [.ref 41, dmy]) rfl (Nat.le_of_ble_eq_true rfl) ?_
  refine e_aload_n dX7_noTraces_0 rfl (pn 1 rfl ?_)
  refine e_get dX7_noTraces_1 fl_X7_50 hX.1.1 rfl (pn 4 rfl ?_)
  refine s_in [_, _] dX7_noTraces_4 (Nat.le_of_ble_eq_true rfl) rfl (pn 5 rfl ?_)
  refine e_aload_n dX7_noTraces_5 rfl (pn 6 rfl ?_)
  refine e_ic (0) dX7_noTraces_6 (by decide) (pn 7 rfl ?_)
  refine e_put dX7_noTraces_7 fp_X7_50 hX.1.1 rfl (Nat.le_of_ble_eq_true rfl) (pn 10 rfl ?_)
  refine e_iload_n dX7_noTraces_10 rfl (pn 11 rfl ?_)
  exact e_iret dX7_noTraces_11 rfl rfl rfl
abbrev lOK (a b c : Int32) : Prop := (0 ≤ a ∧ a ≤ 64) ∧ (0 ≤ b ∧ b ≤ 64) ∧ (0 ≤ c ∧ c ≤ 64) ∧ a + b + c ≤ 64
theorem M_line0 (w : Wd) {a b c : Int32} (h : ¬ lOK a b c) : CW mX7_line [.ref 41, .int a, .int b, .int c] w (some (.int (-1))) w := by
  refine cw_of (M := mX7_line) fx_X7_line (lv := [.ref 41, .int a, .int b, .int c]) rfl (Nat.le_of_ble_eq_true rfl) ?_
  refine e_iload_n dX7_line_0 rfl (pn 1 rfl ?_)
  refine e_i2l dX7_line_1 (pn 2 rfl ?_)
  refine e_lc (0) dX7_line_2 (by decide) (pn 3 rfl ?_)
  refine e_ldc2 dX7_line_3 lk_X7_98 (pn 6 rfl ?_)
  refine c_S1 dX7_line_6 ml_X7_39 ms_X7_in (by decide) (q_in w a 0 64 (by decide) (by decide)) rfl rfl (Nat.le_of_ble_eq_true rfl) (pn 9 rfl ?_)
  by_cases ha : 0 ≤ a ∧ a ≤ 64
  · rw [if_pos ha]
    refine e_if_eq 46 dX7_line_9 (by decide) (fun c_9 => absurd c_9 (by decide)) (fun _ => pn 12 rfl ?_)
    refine e_iload_n dX7_line_12 rfl (pn 13 rfl ?_)
    refine e_i2l dX7_line_13 (pn 14 rfl ?_)
    refine e_lc (0) dX7_line_14 (by decide) (pn 15 rfl ?_)
    refine e_ldc2 dX7_line_15 lk_X7_98 (pn 18 rfl ?_)
    refine c_S1 dX7_line_18 ml_X7_39 ms_X7_in (by decide) (q_in w b 0 64 (by decide) (by decide)) rfl rfl (Nat.le_of_ble_eq_true rfl) (pn 21 rfl ?_)
    by_cases hb : 0 ≤ b ∧ b ≤ 64
    · rw [if_pos hb]
      refine e_if_eq 46 dX7_line_21 (by decide) (fun c_9 => absurd c_9 (by decide)) (fun _ => pn 24 rfl ?_)
      refine e_iload_n dX7_line_24 rfl (pn 25 rfl ?_)
      refine e_i2l dX7_line_25 (pn 26 rfl ?_)
      refine e_lc (0) dX7_line_26 (by decide) (pn 27 rfl ?_)
      refine e_ldc2 dX7_line_27 lk_X7_98 (pn 30 rfl ?_)
      refine c_S1 dX7_line_30 ml_X7_39 ms_X7_in (by decide) (q_in w c 0 64 (by decide) (by decide)) rfl rfl (Nat.le_of_ble_eq_true rfl) (pn 33 rfl ?_)
      by_cases hc : 0 ≤ c ∧ c ≤ 64
      · rw [if_pos hc]
        refine e_if_eq 46 dX7_line_33 (by decide) (fun c_9 => absurd c_9 (by decide)) (fun _ => pn 36 rfl ?_)
        refine e_iload_n dX7_line_36 rfl (pn 37 rfl ?_)
        refine e_iload_n dX7_line_37 rfl (pn 38 rfl ?_)
        refine e_iadd dX7_line_38 (pn 39 rfl ?_)
        refine e_iload_n dX7_line_39 rfl (pn 40 rfl ?_)
        refine e_iadd dX7_line_40 (pn 41 rfl ?_)
        refine e_bi (64) dX7_line_41 (by decide) (pn 43 rfl ?_)
        refine e_icmp_le 48 dX7_line_43 (by decide) (fun c_9 => absurd c_9 (fun e => h ⟨ha, hb, hc, e⟩)) (fun _ => pn 46 rfl ?_)
        refine e_ic (-1) dX7_line_46 (by decide) (pn 47 rfl ?_)
        exact e_iret dX7_line_47 rfl rfl rfl
      · rw [if_neg hc]
        refine e_if_eq 46 dX7_line_33 (by decide) (fun _ => ?_) (fun c_9 => absurd (by decide) c_9)
        refine e_ic (-1) dX7_line_46 (by decide) (pn 47 rfl ?_)
        exact e_iret dX7_line_47 rfl rfl rfl
    · rw [if_neg hb]
      refine e_if_eq 46 dX7_line_21 (by decide) (fun _ => ?_) (fun c_9 => absurd (by decide) c_9)
      refine e_ic (-1) dX7_line_46 (by decide) (pn 47 rfl ?_)
      exact e_iret dX7_line_47 rfl rfl rfl
  · rw [if_neg ha]
    refine e_if_eq 46 dX7_line_9 (by decide) (fun _ => ?_) (fun c_9 => absurd (by decide) c_9)
    refine e_ic (-1) dX7_line_46 (by decide) (pn 47 rfl ?_)
    exact e_iret dX7_line_47 rfl rfl rfl
abbrev sLn (S : St) (t : Nat × Nat × Nat) : St := (S.1, S.2.1, S.2.2.1, S.2.2.2.1, t, S.2.2.2.2.2)
theorem n_lOK {a b c : Nat} (h : a + b + c ≤ 64) : lOK (nI a) (nI b) (nI c) := ⟨⟨nI_pos' (by omega), nI_le (b := 64) (by omega) (by omega)⟩, ⟨nI_pos' (by omega), nI_le (b := 64) (by omega) (by omega)⟩, ⟨nI_pos' (by omega), nI_le (b := 64) (by omega) (by omega)⟩, by rw [nI_add, nI_add]; exact nI_le (b := 64) h (by omega)⟩
theorem lOK_n {a b c : Int32} (h : lOK a b c) : ∃ x y z : Nat, a = nI x ∧ b = nI y ∧ c = nI z ∧ x + y + z ≤ 64 := by
  obtain ⟨h1, h2, h3, h4⟩ := h
  obtain ⟨x, hx, rfl⟩ := i_nat (a := 0) (b := 64) (by decide) h1.1 h1.2 (by decide)
  obtain ⟨y, hy, rfl⟩ := i_nat (a := 0) (b := 64) (by decide) h2.1 h2.2 (by decide)
  obtain ⟨z, hz, rfl⟩ := i_nat (a := 0) (b := 64) (by decide) h3.1 h3.2 (by decide)
  rw [nI_add, nI_add] at h4
  exact ⟨x, y, z, rfl, rfl, rfl, (nI_leI (b := 64) (by omega) (by decide)).mp h4⟩
theorem M_line1 {w : Wd} {S : St} (h : MI w S) {a b c : Nat} (hl : a + b + c ≤ 64) : ∃ w2, CW mX7_line [.ref 41, .int (nI a), .int (nI b), .int (nI c)] w (some (.int 0)) w2 ∧ FM w w2 ∧ MI w2 (sLn S (a, b, c)) := by
  obtain ⟨hS, x, mf, lf, E, nl, g, f, hX, hW, hE⟩ := h
  obtain ⟨l1, l2, l3, l4⟩ := n_lOK hl
  refine ⟨_, ?_, hX.F41 (FM.rf w) _, ⟨hS.1, hS.2.1, hS.2.2.1, hS.2.2.2.1, hl, hS.2.2.2.2.2⟩, x, _, _, E, nl, g, f, hX.s41 (sLn S (a, b, c)) x, hW, hE⟩
  refine cw_of (M := mX7_line) fx_X7_line (lv := [.ref 41, .int (nI a), .int (nI b), .int (nI c)]) rfl (Nat.le_of_ble_eq_true rfl) ?_
  refine e_iload_n dX7_line_0 rfl (pn 1 rfl ?_)
  refine e_i2l dX7_line_1 (pn 2 rfl ?_)
  refine e_lc (0) dX7_line_2 (by decide) (pn 3 rfl ?_)
  refine e_ldc2 dX7_line_3 lk_X7_98 (pn 6 rfl ?_)
  refine c_S1 dX7_line_6 ml_X7_39 ms_X7_in (by decide) (q_in w (nI a) 0 64 (by decide) (by decide)) rfl rfl (Nat.le_of_ble_eq_true rfl) (pn 9 rfl ?_)
  rw [if_pos l1]
  refine e_if_eq 46 dX7_line_9 (by decide) (fun c_9 => absurd c_9 (by decide)) (fun _ => pn 12 rfl ?_)
  refine e_iload_n dX7_line_12 rfl (pn 13 rfl ?_)
  refine e_i2l dX7_line_13 (pn 14 rfl ?_)
  refine e_lc (0) dX7_line_14 (by decide) (pn 15 rfl ?_)
  refine e_ldc2 dX7_line_15 lk_X7_98 (pn 18 rfl ?_)
  refine c_S1 dX7_line_18 ml_X7_39 ms_X7_in (by decide) (q_in w (nI b) 0 64 (by decide) (by decide)) rfl rfl (Nat.le_of_ble_eq_true rfl) (pn 21 rfl ?_)
  rw [if_pos l2]
  refine e_if_eq 46 dX7_line_21 (by decide) (fun c_9 => absurd c_9 (by decide)) (fun _ => pn 24 rfl ?_)
  refine e_iload_n dX7_line_24 rfl (pn 25 rfl ?_)
  refine e_i2l dX7_line_25 (pn 26 rfl ?_)
  refine e_lc (0) dX7_line_26 (by decide) (pn 27 rfl ?_)
  refine e_ldc2 dX7_line_27 lk_X7_98 (pn 30 rfl ?_)
  refine c_S1 dX7_line_30 ml_X7_39 ms_X7_in (by decide) (q_in w (nI c) 0 64 (by decide) (by decide)) rfl rfl (Nat.le_of_ble_eq_true rfl) (pn 33 rfl ?_)
  rw [if_pos l3]
  refine e_if_eq 46 dX7_line_33 (by decide) (fun c_9 => absurd c_9 (by decide)) (fun _ => pn 36 rfl ?_)
  refine e_iload_n dX7_line_36 rfl (pn 37 rfl ?_)
  refine e_iload_n dX7_line_37 rfl (pn 38 rfl ?_)
  refine e_iadd dX7_line_38 (pn 39 rfl ?_)
  refine e_iload_n dX7_line_39 rfl (pn 40 rfl ?_)
  refine e_iadd dX7_line_40 (pn 41 rfl ?_)
  refine e_bi (64) dX7_line_41 (by decide) (pn 43 rfl ?_)
  refine e_icmp_le 48 dX7_line_43 (by decide) (fun _ => ?_) (fun c_9 => absurd l4 c_9)
  refine e_aload_n dX7_line_48 rfl (pn 49 rfl ?_)
  refine e_iload_n dX7_line_49 rfl (pn 50 rfl ?_)
  refine e_put dX7_line_50 fp_X7_158 hX.1.1 rfl (Nat.le_of_ble_eq_true rfl) (pn 53 rfl ?_)
  refine e_aload_n dX7_line_53 rfl (pn 54 rfl ?_)
  refine e_iload_n dX7_line_54 rfl (pn 55 rfl ?_)
  refine e_put dX7_line_55 fp_X7_161 (gse hX.1.1) rfl (Nat.le_of_ble_eq_true rfl) (pn 58 rfl ?_)
  refine e_aload_n dX7_line_58 rfl (pn 59 rfl ?_)
  refine e_iload_n dX7_line_59 rfl (pn 60 rfl ?_)
  refine e_put dX7_line_60 fp_X7_164 (gse (gse hX.1.1)) rfl (Nat.le_of_ble_eq_true rfl) (pn 63 rfl ?_)
  refine e_ic (0) dX7_line_63 (by decide) (pn 64 rfl ?_)
  exact e_iret dX7_line_64 rfl rfl (by rw [List.set_set, List.set_set]; rfl)
abbrev sSd (S : St) (t : Int64 × Int64) : St := (S.1, S.2.1, S.2.2.1, S.2.2.2.1, S.2.2.2.2.1, t)
theorem cmp_ge0 {v w : Int64} (h : ¬ v < w) : 0 ≤ lg_cmp v w := by
  have h9 : ¬ lg_cmp v w < 0 := fun e => h ((cmp_lt v w).mp e)
  rw [fa_lt] at h9
  rw [fa_le]
  omega
theorem cmp_nge {v w : Int64} (h : v < w) : ¬ 0 ≤ lg_cmp v w := fun e => by
  have := (cmp_lt v w).mpr h
  rw [fa_lt] at this
  rw [fa_le] at e
  omega
theorem M_seed0 (w : Wd) {v : Int64} (h : v < 0) : CW mX7_seed [.ref 41, .long v] w (some (.int (-1))) w := by
  refine cw_of (M := mX7_seed) fx_X7_seed (lv := [.ref 41, .long v, dmy]) rfl (Nat.le_of_ble_eq_true rfl) ?_
  refine e_lload_n dX7_seed_0 rfl (pn 1 rfl ?_)
  refine e_lc (0) dX7_seed_1 (by decide) (pn 2 rfl ?_)
  refine e_lcmp dX7_seed_2 (pn 3 rfl ?_)
  refine e_if_ge 8 dX7_seed_3 (by decide) (fun c_9 => absurd c_9 (cmp_nge h)) (fun _ => pn 6 rfl ?_)
  refine e_ic (-1) dX7_seed_6 (by decide) (pn 7 rfl ?_)
  exact e_iret dX7_seed_7 rfl rfl rfl
theorem M_seed1 {w : Wd} {S : St} (h : MI w S) {v v2 : Int64} (hv : ¬ v < 0) (hv2 : v &&& 281474976710655 = v2) (hn : nxS v = nxS v2) : ∃ w2, CW mX7_seed [.ref 41, .long v] w (some (.int 0)) w2 ∧ FM w w2 ∧ MI w2 (sSd S (v, v2)) := by
  obtain ⟨hS, x, mf, lf, E, nl, g, f, hX, hW, hE⟩ := h
  refine ⟨_, ?_, hX.F41 (FM.rf w) _, ⟨hS.1, hS.2.1, hS.2.2.1, hS.2.2.2.1, hS.2.2.2.2.1, hn⟩, x, _, _, E, nl, g, f, hX.s41 (sSd S (v, v2)) x, hW, hE⟩
  refine cw_of (M := mX7_seed) fx_X7_seed (lv := [.ref 41, .long v, dmy]) rfl (Nat.le_of_ble_eq_true rfl) ?_
  refine e_lload_n dX7_seed_0 rfl (pn 1 rfl ?_)
  refine e_lc (0) dX7_seed_1 (by decide) (pn 2 rfl ?_)
  refine e_lcmp dX7_seed_2 (pn 3 rfl ?_)
  refine e_if_ge 8 dX7_seed_3 (by decide) (fun _ => ?_) (fun c_9 => absurd (cmp_ge0 hv) c_9)
  refine e_aload_n dX7_seed_8 rfl (pn 9 rfl ?_)
  refine e_lload_n dX7_seed_9 rfl (pn 10 rfl ?_)
  refine e_ldc2 dX7_seed_10 lk_X7_167 (pn 13 rfl ?_)
  refine e_land dX7_seed_13 (pn 14 rfl ?_)
  rw [hv2]
  refine e_put dX7_seed_14 fp_X7_20 hX.1.1 rfl (Nat.le_of_ble_eq_true rfl) (pn 17 rfl ?_)
  refine e_ic (0) dX7_seed_17 (by decide) (pn 18 rfl ?_)
  exact e_iret dX7_seed_18 rfl rfl rfl
def rgN (S : St) : Nat → Nat
  | 0 => 0
  | k + 1 => rgN S k + (S.2.1 k).length
abbrev ctN (S : St) (v : Int32) : Int32 := if v = 0 then nI S.1 else if v = 1 then nI S.2.2.2.1.1 else if v = 2 then nI S.2.2.1.1 else if v = 3 then nI (rgN S 12) else -1
theorem v_cases (v : Int32) : v = 0 ∨ v = 1 ∨ v = 2 ∨ v = 3 ∨ (v.toInt < 0 ∨ 3 < v.toInt) := by
  simp only [fa_eq]
  have e0 : (0 : Int32).toInt = 0 := by decide
  have e1 : (1 : Int32).toInt = 1 := by decide
  have e2 : (2 : Int32).toInt = 2 := by decide
  have e3 : (3 : Int32).toInt = 3 := by decide
  omega
theorem M_count {w : Wd} {S : St} (h : MI w S) (v : Int32) : CW mX7_count [.ref 41, .int v] w (some (.int (ctN S v))) w := by
  obtain ⟨hS, x, mf, lf, E, nl, g, f, hX, hW, hE⟩ := h
  have loop : ∀ {r : Option Value} {w' : Wd} (c k : Nat), k + c = 12 → EW mX7_count none 25 [.ref 41, .int v, .int (nI (rgN S 12)), dmy] [] w r w' → EW mX7_count none 4 [.ref 41, .int v, .int (nI (rgN S k)), .int (nI k)] [] w r w' := by
    intro r w' c
    induction c with
    | zero =>
      intro k hk K
      have e : k = 12 := by omega
      subst e
      refine e_iload_n dX7_count_4 rfl (pn 5 rfl ?_)
      refine e_bi (12) dX7_count_5 (by decide) (pn 7 rfl ?_)
      refine e_icmp_ge 25 dX7_count_7 (by decide) (fun _ => ?_) (fun c_9 => absurd (by decide) c_9)
      exact e_dr [_, _, _, _] 3 rfl K
    | succ c ih =>
      intro k hk K
      refine e_iload_n dX7_count_4 rfl (pn 5 rfl ?_)
      refine e_bi (12) dX7_count_5 (by decide) (pn 7 rfl ?_)
      refine e_icmp_ge 25 dX7_count_7 (by decide) (fun c_9 => absurd c_9 (nI_ge (b := 12) (by omega) (by omega))) (fun _ => pn 10 rfl ?_)
      refine e_iload_n dX7_count_10 rfl (pn 11 rfl ?_)
      refine e_aload_n dX7_count_11 rfl (pn 12 rfl ?_)
      refine e_get dX7_count_12 fl_X7_13 hX.1.1 rfl (pn 15 rfl ?_)
      refine e_iload_n dX7_count_15 rfl (pn 16 rfl ?_)
      refine e_iald (k) dX7_count_16 hX.1.2.1 rfl (by omega) (by omega) (pn 17 rfl ?_)
      refine e_iadd dX7_count_17 (pn 18 rfl ?_)
      refine s_in [_, _, _, _] dX7_count_18 (Nat.le_of_ble_eq_true rfl) rfl (pn 19 rfl ?_)
      refine s_inc [_, _, _, _] (1) dX7_count_19 (by decide) rfl (Nat.le_of_ble_eq_true rfl) rfl (pn 22 rfl ?_)
      refine e_goto 4 dX7_count_22 (by decide) ?_
      rw [(hW.1 k (by omega)).1, nI_add, nI_1]
      exact ih (k + 1) (by omega) K
  refine cw_of (M := mX7_count) fx_X7_count (lv := [.ref 41, .int v, dmy, dmy]) rfl (Nat.le_of_ble_eq_true rfl) ?_
  refine e_ic (0) dX7_count_0 (by decide) (pn 1 rfl ?_)
  refine s_in [_, _, _, _] dX7_count_1 (Nat.le_of_ble_eq_true rfl) rfl (pn 2 rfl ?_)
  refine e_ic (0) dX7_count_2 (by decide) (pn 3 rfl ?_)
  refine s_in [_, _, _, _] dX7_count_3 (Nat.le_of_ble_eq_true rfl) rfl (pn 4 rfl ?_)
  refine loop 12 0 (by omega) ?_
  refine e_iload_n dX7_count_25 rfl (pn 26 rfl ?_)
  rcases v_cases v with rfl | rfl | rfl | rfl | hv
  · refine e_tabIn 56 dX7_count_26 (by decide) (by decide) (off := 30) (by decide) (by decide) ?_
    refine e_aload_n dX7_count_56 rfl (pn 57 rfl ?_)
    refine e_get dX7_count_57 fl_X7_7 hX.1.1 rfl (pn 60 rfl ?_)
    exact e_iret dX7_count_60 rfl rfl rfl
  · refine e_tabIn 61 dX7_count_26 (by decide) (by decide) (off := 35) (by decide) (by decide) ?_
    refine e_aload_n dX7_count_61 rfl (pn 62 rfl ?_)
    refine e_get dX7_count_62 fl_X7_50 hX.1.1 rfl (pn 65 rfl ?_)
    exact e_iret dX7_count_65 rfl rfl rfl
  · refine e_tabIn 66 dX7_count_26 (by decide) (by decide) (off := 40) (by decide) (by decide) ?_
    refine e_aload_n dX7_count_66 rfl (pn 67 rfl ?_)
    refine e_get dX7_count_67 fl_X7_47 hX.1.1 rfl (pn 70 rfl ?_)
    exact e_iret dX7_count_70 rfl rfl rfl
  · refine e_tabIn 71 dX7_count_26 (by decide) (by decide) (off := 45) (by decide) (by decide) ?_
    refine e_iload_n dX7_count_71 rfl (pn 72 rfl ?_)
    exact e_iret dX7_count_72 rfl rfl rfl
  · refine e_tabOut 73 dX7_count_26 hv (by decide) ?_
    refine e_ic (-1) dX7_count_73 (by decide) (pn 74 rfl ?_)
    have n0 : ¬ v = 0 := fun e => by rw [e] at hv; revert hv; decide
    have n1 : ¬ v = 1 := fun e => by rw [e] at hv; revert hv; decide
    have n2 : ¬ v = 2 := fun e => by rw [e] at hv; revert hv; decide
    have n3 : ¬ v = 3 := fun e => by rw [e] at hv; revert hv; decide
    exact e_iret dX7_count_74 rfl (by rw [ctN, if_neg n0, if_neg n1, if_neg n2, if_neg n3]) rfl
