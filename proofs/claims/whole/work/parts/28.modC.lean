/-! near, mend: what the model's list holds -/
def lwM (D : Md) (v : List Nat) (ws : List (List Nat)) : List (List Nat) := if isM D v ∧ v ∉ ws then ws ++ [v] else ws
def lwL (D : Md) (u : List Nat) (kind i : Nat) : Nat → Nat → List (List Nat) → List (List Nat)
  | 0, _, ws => ws
  | c + 1, l, ws => lwL D u kind i c (l + 1) (lwM D (edW u kind i l) ws)
def lwI (D : Md) (u : List Nat) (kind : Nat) : Nat → Nat → List (List Nat) → List (List Nat)
  | 0, _, ws => ws
  | c + 1, i, ws => lwI D u kind c (i + 1) (lwL D u kind i (if kind = 0 then 1 else D.1) 0 ws)
def lwK (D : Md) (u : List Nat) : Nat → Nat → List (List Nat) → List (List Nat)
  | 0, _, ws => ws
  | c + 1, kind, ws => lwK D u c (kind + 1) (lwI D u kind (if kind = 1 then u.length + 1 else u.length) 0 ws)
def lwA (D : Md) (u : List Nat) : List (List Nat) := lwK D u 3 0 (lwM D u [])
theorem lkM_ws (D : Md) (v : List Nat) (S : KS) : (lkM D v S).2.2.2 = lwM D v S.2.2.2 ∧ (lkM D v S).1 = S.1 ∧ (lkM D v S).2.1 = S.2.1 := by
  unfold lkM lwM
  by_cases h : isM D v ∧ v ∉ S.2.2.2
  · rw [if_pos h, if_pos h]; exact ⟨rfl, rfl, rfl⟩
  · rw [if_neg h, if_neg h]; exact ⟨rfl, rfl, rfl⟩
theorem lkL_ws (D : Md) (u : List Nat) (kind i : Nat) : ∀ (c l : Nat) (S : KS), (lkL D u kind i c l S).2.2.2 = lwL D u kind i c l S.2.2.2
  | 0, l, S => rfl
  | c + 1, l, S => by rw [lkL, lwL, lkL_ws D u kind i c, (lkM_ws D _ _).1]; rfl
theorem lkI_ws (D : Md) (u : List Nat) (kind : Nat) : ∀ (c i : Nat) (S : KS), (lkI D u kind c i S).2.2.2 = lwI D u kind c i S.2.2.2
  | 0, l, S => rfl
  | c + 1, l, S => by rw [lkI, lwI, lkI_ws D u kind c, lkL_ws]
theorem lkK_ws (D : Md) (u : List Nat) : ∀ (c kind : Nat) (S : KS), (lkK D u c kind S).2.2.2 = lwK D u c kind S.2.2.2
  | 0, l, S => rfl
  | c + 1, l, S => by rw [lkK, lwK, lkK_ws D u c, lkI_ws]
theorem lkL_kp (D : Md) {u : List Nat} (oku : okW u) {kind i : Nat} (hk : kind ≤ 2) (hi : if kind = 1 then i ≤ u.length else i < u.length) {r : Nat} (hr : r ≠ 21) {z : List Nat} : ∀ (c l : Nat) (S : KS), l + c ≤ 4 → wM S.1 S.2.1 r z → wM (lkL D u kind i c l S).1 (lkL D u kind i c l S).2.1 r z
  | 0, l, S, _, h => h
  | c + 1, l, S, hl, h => by
    rw [lkL]
    refine lkL_kp D oku hk hi hr c (l + 1) _ (by omega) ?_
    obtain ⟨-, e1, e2⟩ := lkM_ws D (edW u kind i l) (lkW (edW u kind i l) S)
    rw [e1, e2]
    have := (edW_ok oku.2 hk hi (show l < 4 by omega)).2
    have := oku.1
    exact h.other hr (by omega) _
theorem lkI_kp {D : Md} (hq : D.1 ≤ 4) {u : List Nat} (oku : okW u) {kind : Nat} (hk : kind ≤ 2) {r : Nat} (hr : r ≠ 21) {z : List Nat} : ∀ (c i : Nat) (S : KS), i + c = (if kind = 1 then u.length + 1 else u.length) → wM S.1 S.2.1 r z → wM (lkI D u kind c i S).1 (lkI D u kind c i S).2.1 r z
  | 0, i, S, _, h => h
  | c + 1, i, S, hi, h => by
    rw [lkI]
    refine lkI_kp hq oku hk hr c (i + 1) _ (by omega) ?_
    refine lkL_kp D oku hk ?_ hr _ 0 S (by split <;> omega) h
    by_cases e : kind = 1
    · rw [if_pos e] at hi ⊢; omega
    · rw [if_neg e] at hi ⊢; omega
theorem lkK_kp {D : Md} (hq : D.1 ≤ 4) {u : List Nat} (oku : okW u) {r : Nat} (hr : r ≠ 21) {z : List Nat} : ∀ (c kind : Nat) (S : KS), kind + c ≤ 3 → wM S.1 S.2.1 r z → wM (lkK D u c kind S).1 (lkK D u c kind S).2.1 r z
  | 0, kind, S, _, h => h
  | c + 1, kind, S, hk, h => by
    rw [lkK]
    refine lkK_kp hq oku hr c (kind + 1) _ (by omega) ?_
    exact lkI_kp hq oku (by omega) hr _ 0 S (by omega) h
theorem lwM_mem (D : Md) (x : List Nat) (ws : List (List Nat)) (v : List Nat) : v ∈ lwM D x ws ↔ v ∈ ws ∨ (isM D v ∧ v = x) := by
  unfold lwM
  by_cases h : isM D x ∧ x ∉ ws
  · rw [if_pos h, List.mem_append, List.mem_singleton]
    exact ⟨fun e => e.elim Or.inl (fun e => Or.inr ⟨e ▸ h.1, e⟩), fun e => e.elim Or.inl (fun e => Or.inr e.2)⟩
  · rw [if_neg h]
    refine ⟨Or.inl, fun e => e.elim id (fun e => ?_)⟩
    obtain ⟨e1, e2⟩ := e
    subst e2
    exact Classical.byContradiction (fun e3 => h ⟨e1, e3⟩)
theorem lwM_nd (D : Md) (x : List Nat) {ws : List (List Nat)} (h : ws.Nodup) : (lwM D x ws).Nodup := by
  unfold lwM
  by_cases e : isM D x ∧ x ∉ ws
  · rw [if_pos e, List.nodup_append]
    refine ⟨h, List.pairwise_singleton _ _, fun a ha b hb e2 => ?_⟩
    rw [List.mem_singleton.mp hb] at e2
    exact e.2 (e2 ▸ ha)
  · rw [if_neg e]; exact h
theorem lwL_mem (D : Md) (u : List Nat) (kind i : Nat) (v : List Nat) : ∀ (c l : Nat) (ws : List (List Nat)), (ws.Nodup → (lwL D u kind i c l ws).Nodup) ∧ (v ∈ lwL D u kind i c l ws ↔ v ∈ ws ∨ (isM D v ∧ ∃ l', l ≤ l' ∧ l' < l + c ∧ v = edW u kind i l'))
  | 0, l, ws => ⟨fun h => h, ⟨Or.inl, fun e => e.elim id (fun ⟨_, l', h1, h2, _⟩ => by omega)⟩⟩
  | c + 1, l, ws => by
    rw [lwL]
    obtain ⟨n1, m1⟩ := lwL_mem D u kind i v c (l + 1) (lwM D (edW u kind i l) ws)
    refine ⟨fun h => n1 (lwM_nd D _ h), ?_⟩
    rw [m1, lwM_mem]
    constructor
    · rintro ((h | ⟨h1, h2⟩) | ⟨h1, l', h2, h3, h4⟩)
      · exact Or.inl h
      · exact Or.inr ⟨h1, l, Nat.le_refl _, by omega, h2⟩
      · exact Or.inr ⟨h1, l', by omega, by omega, h4⟩
    · rintro (h | ⟨h1, l', h2, h3, h4⟩)
      · exact Or.inl (Or.inl h)
      · by_cases e : l' = l
        · subst e; exact Or.inl (Or.inr ⟨h1, h4⟩)
        · exact Or.inr ⟨h1, l', by omega, by omega, h4⟩
theorem lwI_mem (D : Md) (u : List Nat) (kind : Nat) (v : List Nat) : ∀ (c i : Nat) (ws : List (List Nat)), (ws.Nodup → (lwI D u kind c i ws).Nodup) ∧ (v ∈ lwI D u kind c i ws ↔ v ∈ ws ∨ (isM D v ∧ ∃ i' l', i ≤ i' ∧ i' < i + c ∧ l' < (if kind = 0 then 1 else D.1) ∧ v = edW u kind i' l'))
  | 0, i, ws => ⟨fun h => h, ⟨Or.inl, fun e => e.elim id (fun ⟨_, i', l', h1, h2, _⟩ => by omega)⟩⟩
  | c + 1, i, ws => by
    rw [lwI]
    obtain ⟨n1, m1⟩ := lwI_mem D u kind v c (i + 1) (lwL D u kind i (if kind = 0 then 1 else D.1) 0 ws)
    obtain ⟨n2, m2⟩ := lwL_mem D u kind i v (if kind = 0 then 1 else D.1) 0 ws
    refine ⟨fun h => n1 (n2 h), ?_⟩
    rw [m1, m2]
    constructor
    · rintro ((h | ⟨h1, l', h2, h3, h4⟩) | ⟨h1, i', l', h2, h3, h4, h5⟩)
      · exact Or.inl h
      · exact Or.inr ⟨h1, i, l', Nat.le_refl _, by omega, by omega, h4⟩
      · exact Or.inr ⟨h1, i', l', by omega, by omega, h4, h5⟩
    · rintro (h | ⟨h1, i', l', h2, h3, h4, h5⟩)
      · exact Or.inl (Or.inl h)
      · by_cases e : i' = i
        · subst e; exact Or.inl (Or.inr ⟨h1, l', by omega, by omega, h5⟩)
        · exact Or.inr ⟨h1, i', l', by omega, by omega, h4, h5⟩
def edS (D : Md) (u v : List Nat) (kind : Nat) : Prop := ∃ i' l', i' < (if kind = 1 then u.length + 1 else u.length) ∧ l' < (if kind = 0 then 1 else D.1) ∧ v = edW u kind i' l'
theorem lwK_mem (D : Md) (u v : List Nat) : ∀ (c kind : Nat) (ws : List (List Nat)), (ws.Nodup → (lwK D u c kind ws).Nodup) ∧ (v ∈ lwK D u c kind ws ↔ v ∈ ws ∨ (isM D v ∧ ∃ k', kind ≤ k' ∧ k' < kind + c ∧ edS D u v k'))
  | 0, kind, ws => ⟨fun h => h, ⟨Or.inl, fun e => e.elim id (fun ⟨_, k', h1, h2, _⟩ => by omega)⟩⟩
  | c + 1, kind, ws => by
    rw [lwK]
    obtain ⟨n1, m1⟩ := lwK_mem D u v c (kind + 1) (lwI D u kind (if kind = 1 then u.length + 1 else u.length) 0 ws)
    obtain ⟨n2, m2⟩ := lwI_mem D u kind v (if kind = 1 then u.length + 1 else u.length) 0 ws
    refine ⟨fun h => n1 (n2 h), ?_⟩
    rw [m1, m2]
    constructor
    · rintro ((h | ⟨h1, i', l', h2, h3, h4, h5⟩) | ⟨h1, k', h2, h3, h4⟩)
      · exact Or.inl h
      · exact Or.inr ⟨h1, kind, Nat.le_refl _, by omega, i', l', by omega, h4, h5⟩
      · exact Or.inr ⟨h1, k', by omega, by omega, h4⟩
    · rintro (h | ⟨h1, k', h2, h3, h4⟩)
      · exact Or.inl (Or.inl h)
      · by_cases e : k' = kind
        · subst e
          obtain ⟨i', l', h5, h6, h7⟩ := h4
          exact Or.inl (Or.inr ⟨h1, i', l', by omega, by omega, h6, h7⟩)
        · exact Or.inr ⟨h1, k', by omega, by omega, h4⟩
theorem lwA_mem (D : Md) (u v : List Nat) : (lwA D u).Nodup ∧ (v ∈ lwA D u ↔ isM D v ∧ (v = u ∨ edS D u v 0 ∨ edS D u v 1 ∨ edS D u v 2)) := by
  obtain ⟨n1, m1⟩ := lwK_mem D u v 3 0 (lwM D u [])
  refine ⟨n1 (lwM_nd D u List.nodup_nil), ?_⟩
  unfold lwA
  rw [m1, lwM_mem]
  constructor
  · rintro ((h | ⟨h1, h2⟩) | ⟨h1, k', h2, h3, h4⟩)
    · cases h
    · exact ⟨h1, Or.inl h2⟩
    · have : k' = 0 ∨ k' = 1 ∨ k' = 2 := by omega
      rcases this with rfl | rfl | rfl
      · exact ⟨h1, Or.inr (Or.inl h4)⟩
      · exact ⟨h1, Or.inr (Or.inr (Or.inl h4))⟩
      · exact ⟨h1, Or.inr (Or.inr (Or.inr h4))⟩
  · rintro ⟨h1, h | h | h | h⟩
    · exact Or.inl (Or.inr ⟨h1, h⟩)
    · exact Or.inr ⟨h1, 0, by omega, by omega, h⟩
    · exact Or.inr ⟨h1, 1, by omega, by omega, h⟩
    · exact Or.inr ⟨h1, 2, by omega, by omega, h⟩
theorem lwA_ok {D : Md} (hq : 2 ≤ D.1 ∧ D.1 ≤ 4) (hn : D.2.1 ≤ 16) {u v : List Nat} (ok : okQ D.1 u) (h : v ∈ lwA D u) : okQ D.1 v ∧ v.length = D.2.1 := by
  obtain ⟨h1, h2⟩ := (lwA_mem D u v).2.mp h
  have hl : v.length = D.2.1 := h1.1
  refine ⟨⟨by omega, ?_⟩, hl⟩
  rcases h2 with h2 | ⟨i, l, a1, a2, rfl⟩ | ⟨i, l, a1, a2, rfl⟩ | ⟨i, l, a1, a2, rfl⟩
  · subst h2; exact ok.2
  · have a1 : i < u.length := a1
    rw [edW_0 l a1]
    exact fun a ha => ok.2 a (List.mem_of_mem_eraseIdx ha)
  · have a1 : i < u.length + 1 := a1
    have a2 : l < D.1 := a2
    rw [edW_1 l (by omega)]
    intro a ha
    rcases (List.mem_insertIdx (by omega)).mp ha with h9 | h9
    · omega
    · exact ok.2 a h9
  · have a1 : i < u.length := a1
    have a2 : l < D.1 := a2
    rw [edW_2 l a1]
    intro a ha
    rcases List.mem_or_eq_of_mem_set ha with h9 | h9
    · exact ok.2 a h9
    · omega
/-- looks, as the state sees it -/
theorem M_looks {w : Wd} {S : St} (hS : SI S) {x : Int32} {mf lf E nl : Nat → Int32} {g : Nat → Int64} {f : Nat → Int32} (hX : MX w S x mf lf E nl g f) (hW : MW S mf lf) (hn : S.2.2.1.1 ≠ 0) {t : Nat} (ht : t < 12) : ∃ (w2 : Wd) (mf2 lf2 nl2 : Nat → Int32), CW mX7_looks [.ref 41, .int (nI t)] w none w2 ∧ FM w w2 ∧ MX w2 S (nI (lwA (mdS S 0) (S.2.1 t)).length) mf2 lf2 E nl2 g f ∧ MW S mf2 lf2 ∧ nW S.2.2.1.1 nl2 (lwA (mdS S 0) (S.2.1 t)) ∧ (lwA (mdS S 0) (S.2.1 t)).length ≤ 230 := by
  obtain ⟨c, -, hc⟩ := wb_of32 x
  have ok := hS.w ht
  have kh : kH w := ⟨⟨_, _, _, hX.1⟩, _, hX.2.2.1⟩
  have hid : wK w (mdS S 0) (mf, lf, nl, List.replicate c []) = w := by
    show ((wA w mf lf).set 45 (aI 4800 nl)).set 41 (mdF (mdS S (nI (List.replicate c ([] : List Nat)).length))) = w
    rw [wA_id hX.1, set_id hX.2.2.1, List.length_replicate, ← hc, set_id hX.1.1]
  obtain ⟨C, O⟩ := q_looks kh (hS.cD hn 0) ht ok (S := (mf, lf, nl, List.replicate c [])) (hW.1 t ht)
  rw [hid] at C
  have ews : (lkK (mdS S 0) (S.2.1 t) 3 0 (lkM (mdS S 0) (S.2.1 t) (va_up mf 21 (mf t), cpF lf 21 t 30, nl, []))).2.2.2 = lwA (mdS S 0) (S.2.1 t) := by
    rw [lkK_ws, (lkM_ws _ _ _).1]
    rfl
  have kp : ∀ r z, r ≠ 21 → wM mf lf r z → wM (lkK (mdS S 0) (S.2.1 t) 3 0 (lkM (mdS S 0) (S.2.1 t) (va_up mf 21 (mf t), cpF lf 21 t 30, nl, []))).1 (lkK (mdS S 0) (S.2.1 t) 3 0 (lkM (mdS S 0) (S.2.1 t) (va_up mf 21 (mf t), cpF lf 21 t 30, nl, []))).2.1 r z := fun r z hr hz => by
    refine lkK_kp hS.1.2 ok hr 3 0 _ (by omega) ?_
    obtain ⟨-, e1, e2⟩ := lkM_ws (mdS S 0) (S.2.1 t) (va_up mf 21 (mf t), cpF lf 21 t 30, nl, [])
    rw [e1, e2]
    exact hz.cpo hr _
  obtain ⟨o1, o2, o3⟩ := O
  rw [ews] at o2 o3
  generalize hK : lkK (mdS S 0) (S.2.1 t) 3 0 (lkM (mdS S 0) (S.2.1 t) (va_up mf 21 (mf t), cpF lf 21 t 30, nl, [])) = K at *
  obtain ⟨u1, u2⟩ := kh.up (mdS S 0) K
  refine ⟨_, K.1, K.2.1, K.2.2.1, C, ?_, ?_, ⟨fun k hk => kp k _ (by omega) (hW.1 k hk), fun k hk => kp (12 + k) _ (by have := hS.2.2.2.1.1; omega) (hW.2 k hk)⟩, o2, o3⟩
  · exact (((FM.rf w).set (by decide) hX.1.2.1 (aI 24 K.1) rfl).set (by decide) (gne (by decide) hX.1.2.2) (aI 720 K.2.1) rfl |>.set (by decide) (gne (by decide) (gne (by decide) hX.2.2.1)) (aI 4800 K.2.2.1) rfl).set (by decide) (gne (by decide) (gne (by decide) (gne (by decide) hX.1.1))) _ rfl
  · rw [ews] at u1
    exact ⟨u1, gne (by decide) (gne (by decide) (gne (by decide) (gne (by decide) hX.2.1))), u2, gne (by decide) (gne (by decide) (gne (by decide) (gne (by decide) hX.2.2.2.1))), gne (by decide) (gne (by decide) (gne (by decide) (gne (by decide) hX.2.2.2.2)))⟩
theorem M_near0 (w : Wd) {s : Int32} (h : ¬ rOK s) : CW mX7_near [.ref 41, .int s] w (some (.int (-1))) w := by
  refine cw_of (M := mX7_near) fx_X7_near (lv := [.ref 41, .int s]) rfl (Nat.le_of_ble_eq_true rfl) ?_
  refine e_iload_n dX7_near_0 rfl (pn 1 rfl ?_)
  refine c_S1 dX7_near_1 ml_X7_53 ms_X7_isRegister (by decide) (q_isR w s) rfl rfl (Nat.le_of_ble_eq_true rfl) (pn 4 rfl ?_)
  rw [iR0 h]
  refine e_if_ne 9 dX7_near_4 (by decide) (fun c_9 => absurd c_9 (by decide)) (fun _ => pn 7 rfl ?_)
  refine e_ic (-1) dX7_near_7 (by decide) (pn 8 rfl ?_)
  exact e_iret dX7_near_8 rfl rfl rfl
theorem M_near1 {w : Wd} {S : St} (h : MI w S) {t : Nat} (ht : t < 12) (hn : S.2.2.1.1 = 0) : CW mX7_near [.ref 41, .int (nI t)] w (some (.int (-2))) w := by
  obtain ⟨hS, x, mf, lf, E, nl, g, f, hX, hW, hE⟩ := h
  refine cw_of (M := mX7_near) fx_X7_near (lv := [.ref 41, .int (nI t)]) rfl (Nat.le_of_ble_eq_true rfl) ?_
  refine e_iload_n dX7_near_0 rfl (pn 1 rfl ?_)
  refine c_S1 dX7_near_1 ml_X7_53 ms_X7_isRegister (by decide) (q_isR w _) rfl rfl (Nat.le_of_ble_eq_true rfl) (pn 4 rfl ?_)
  rw [iR1 ht]
  refine e_if_ne 9 dX7_near_4 (by decide) (fun _ => ?_) (fun c_9 => absurd c_9 (by decide))
  refine e_aload_n dX7_near_9 rfl (pn 10 rfl ?_)
  refine e_get dX7_near_10 fl_X7_47 hX.1.1 rfl (pn 13 rfl ?_)
  refine e_if_ne 19 dX7_near_13 (by decide) (fun c_9 => absurd c_9 (fun e => e (by show nI S.2.2.1.1 = 0; rw [hn]; rfl))) (fun _ => pn 16 rfl ?_)
  refine e_bi (-2) dX7_near_16 (by decide) (pn 18 rfl ?_)
  exact e_iret dX7_near_18 rfl rfl rfl
theorem SI.n16 {S : St} (h : SI S) (hn : S.2.2.1.1 ≠ 0) : S.2.2.1.1 ≤ 16 := ((h.2.2.1 (Nat.pos_of_ne_zero hn)).1).1
theorem M_near2 {w : Wd} {S : St} (h : MI w S) {t : Nat} (ht : t < 12) (hn : S.2.2.1.1 ≠ 0) : ∃ w2, CW mX7_near [.ref 41, .int (nI t)] w (some (.int (nI (lwA (mdS S 0) (S.2.1 t)).length))) w2 ∧ FM w w2 ∧ MI w2 S := by
  obtain ⟨hS, x, mf, lf, E, nl, g, f, hX, hW, hE⟩ := h
  obtain ⟨w2, mf2, lf2, nl2, C, F2, X2, W2, N2, L2⟩ := M_looks hS hX hW hn ht
  refine ⟨w2, ?_, F2, hS, _, mf2, lf2, E, nl2, g, f, X2, W2, hE⟩
  have h16 := hS.n16 hn
  refine cw_of (M := mX7_near) fx_X7_near (lv := [.ref 41, .int (nI t)]) rfl (Nat.le_of_ble_eq_true rfl) ?_
  refine e_iload_n dX7_near_0 rfl (pn 1 rfl ?_)
  refine c_S1 dX7_near_1 ml_X7_53 ms_X7_isRegister (by decide) (q_isR w _) rfl rfl (Nat.le_of_ble_eq_true rfl) (pn 4 rfl ?_)
  rw [iR1 ht]
  refine e_if_ne 9 dX7_near_4 (by decide) (fun _ => ?_) (fun c_9 => absurd c_9 (by decide))
  refine e_aload_n dX7_near_9 rfl (pn 10 rfl ?_)
  refine e_get dX7_near_10 fl_X7_47 hX.1.1 rfl (pn 13 rfl ?_)
  refine e_if_ne 19 dX7_near_13 (by decide) (fun _ => ?_) (fun c_9 => absurd c_9 (nI_ne0 (Nat.pos_of_ne_zero hn) (show S.2.2.1.1 < 2 ^ 31 by omega)))
  refine e_aload_n dX7_near_19 rfl (pn 20 rfl ?_)
  refine e_iload_n dX7_near_20 rfl (pn 21 rfl ?_)
  refine c_V0 dX7_near_21 ml_X7_116 mv_X7_looks (by decide) C hX.1.1 rfl rfl (Nat.le_of_ble_eq_true rfl) (pn 24 rfl ?_)
  refine e_aload_n dX7_near_24 rfl (pn 25 rfl ?_)
  refine e_get dX7_near_25 fl_X7_110 X2.1.1 rfl (pn 28 rfl ?_)
  exact e_iret dX7_near_28 rfl rfl rfl
theorem M_mend0 (w : Wd) {s t : Int32} (h : ¬ (rOK s ∧ rOK t)) : CW mX7_mend [.ref 41, .int s, .int t] w (some (.int (-1))) w := by
  refine cw_of (M := mX7_mend) fx_X7_mend (lv := [.ref 41, .int s, .int t, dmy]) rfl (Nat.le_of_ble_eq_true rfl) ?_
  refine e_iload_n dX7_mend_0 rfl (pn 1 rfl ?_)
  refine c_S1 dX7_mend_1 ml_X7_53 ms_X7_isRegister (by decide) (q_isR w s) rfl rfl (Nat.le_of_ble_eq_true rfl) (pn 4 rfl ?_)
  rcases r2_cases h with hs | ⟨hs, ht⟩
  · rw [iR0 hs]
    refine e_if_eq 14 dX7_mend_4 (by decide) (fun _ => ?_) (fun c_9 => absurd (by decide) c_9)
    refine e_ic (-1) dX7_mend_14 (by decide) (pn 15 rfl ?_)
    exact e_iret dX7_mend_15 rfl rfl rfl
  · rw [iRp hs]
    refine e_if_eq 14 dX7_mend_4 (by decide) (fun c_9 => absurd c_9 (by decide)) (fun _ => pn 7 rfl ?_)
    refine e_iload_n dX7_mend_7 rfl (pn 8 rfl ?_)
    refine c_S1 dX7_mend_8 ml_X7_53 ms_X7_isRegister (by decide) (q_isR w t) rfl rfl (Nat.le_of_ble_eq_true rfl) (pn 11 rfl ?_)
    rw [iR0 ht]
    refine e_if_ne 16 dX7_mend_11 (by decide) (fun c_9 => absurd c_9 (by decide)) (fun _ => pn 14 rfl ?_)
    refine e_ic (-1) dX7_mend_14 (by decide) (pn 15 rfl ?_)
    exact e_iret dX7_mend_15 rfl rfl rfl
theorem M_mend1 {w : Wd} {S : St} (h : MI w S) {s t : Nat} (hs : s < 12) (ht : t < 12) (hn : S.2.2.1.1 = 0) : CW mX7_mend [.ref 41, .int (nI s), .int (nI t)] w (some (.int (-2))) w := by
  obtain ⟨hS, x, mf, lf, E, nl, g, f, hX, hW, hE⟩ := h
  refine cw_of (M := mX7_mend) fx_X7_mend (lv := [.ref 41, .int (nI s), .int (nI t), dmy]) rfl (Nat.le_of_ble_eq_true rfl) ?_
  refine e_iload_n dX7_mend_0 rfl (pn 1 rfl ?_)
  refine c_S1 dX7_mend_1 ml_X7_53 ms_X7_isRegister (by decide) (q_isR w _) rfl rfl (Nat.le_of_ble_eq_true rfl) (pn 4 rfl ?_)
  rw [iR1 hs]
  refine e_if_eq 14 dX7_mend_4 (by decide) (fun c_9 => absurd c_9 (by decide)) (fun _ => pn 7 rfl ?_)
  refine e_iload_n dX7_mend_7 rfl (pn 8 rfl ?_)
  refine c_S1 dX7_mend_8 ml_X7_53 ms_X7_isRegister (by decide) (q_isR w _) rfl rfl (Nat.le_of_ble_eq_true rfl) (pn 11 rfl ?_)
  rw [iR1 ht]
  refine e_if_ne 16 dX7_mend_11 (by decide) (fun _ => ?_) (fun c_9 => absurd c_9 (by decide))
  refine e_aload_n dX7_mend_16 rfl (pn 17 rfl ?_)
  refine e_get dX7_mend_17 fl_X7_47 hX.1.1 rfl (pn 20 rfl ?_)
  refine e_if_ne 26 dX7_mend_20 (by decide) (fun c_9 => absurd c_9 (fun e => e (by show nI S.2.2.1.1 = 0; rw [hn]; rfl))) (fun _ => pn 23 rfl ?_)
  refine e_bi (-2) dX7_mend_23 (by decide) (pn 25 rfl ?_)
  exact e_iret dX7_mend_25 rfl rfl rfl
theorem M_mend2 {w : Wd} {S : St} (h : MI w S) {s t : Nat} (hs : s < 12) (ht : t < 12) (hn : S.2.2.1.1 ≠ 0) (hm : isM (mdS S 0) (S.2.1 t)) : ∃ w2, CW mX7_mend [.ref 41, .int (nI s), .int (nI t)] w (some (.int 0)) w2 ∧ FM w w2 ∧ MI w2 (sReg S s (S.2.1 t)) := by
  obtain ⟨hS, x, mf, lf, E, nl, g, f, hX, hW, hE⟩ := h
  have h16 := hS.n16 hn
  have C := q_isCode hX.1 (hS.cD hn x) (show t < 24 by omega) (hW.1 t ht) (hS.w ht).2
  rw [if_pos (show isM (mdS S x) (S.2.1 t) from hm)] at C
  have P := q_copies hX.1 (mf := mf) (lf := lf) (s := s) (t := t) (by omega) (by omega)
  rw [wA_id hX.1] at P
  refine ⟨_, ?_, hX.FA (FM.rf w) _ _, hS.reg (hS.2.1 t ht), x, _, _, E, nl, g, f, hX.sA _ _, hW.cp hs (hW.1 t ht), hE⟩
  refine cw_of (M := mX7_mend) fx_X7_mend (lv := [.ref 41, .int (nI s), .int (nI t), dmy]) rfl (Nat.le_of_ble_eq_true rfl) ?_
  refine e_iload_n dX7_mend_0 rfl (pn 1 rfl ?_)
  refine c_S1 dX7_mend_1 ml_X7_53 ms_X7_isRegister (by decide) (q_isR w _) rfl rfl (Nat.le_of_ble_eq_true rfl) (pn 4 rfl ?_)
  rw [iR1 hs]
  refine e_if_eq 14 dX7_mend_4 (by decide) (fun c_9 => absurd c_9 (by decide)) (fun _ => pn 7 rfl ?_)
  refine e_iload_n dX7_mend_7 rfl (pn 8 rfl ?_)
  refine c_S1 dX7_mend_8 ml_X7_53 ms_X7_isRegister (by decide) (q_isR w _) rfl rfl (Nat.le_of_ble_eq_true rfl) (pn 11 rfl ?_)
  rw [iR1 ht]
  refine e_if_ne 16 dX7_mend_11 (by decide) (fun _ => ?_) (fun c_9 => absurd c_9 (by decide))
  refine e_aload_n dX7_mend_16 rfl (pn 17 rfl ?_)
  refine e_get dX7_mend_17 fl_X7_47 hX.1.1 rfl (pn 20 rfl ?_)
  refine e_if_ne 26 dX7_mend_20 (by decide) (fun _ => ?_) (fun c_9 => absurd c_9 (nI_ne0 (Nat.pos_of_ne_zero hn) (show S.2.2.1.1 < 2 ^ 31 by omega)))
  refine e_aload_n dX7_mend_26 rfl (pn 27 rfl ?_)
  refine e_iload_n dX7_mend_27 rfl (pn 28 rfl ?_)
  refine c_V1 dX7_mend_28 ml_X7_107 mv_X7_isCode (by decide) C hX.1.1 rfl rfl (Nat.le_of_ble_eq_true rfl) (pn 31 rfl ?_)
  refine e_if_eq 42 dX7_mend_31 (by decide) (fun c_9 => absurd c_9 (by decide)) (fun _ => pn 34 rfl ?_)
  refine e_aload_n dX7_mend_34 rfl (pn 35 rfl ?_)
  refine e_iload_n dX7_mend_35 rfl (pn 36 rfl ?_)
  refine e_iload_n dX7_mend_36 rfl (pn 37 rfl ?_)
  refine c_V0 dX7_mend_37 ml_X7_69 mv_X7_copies (by decide) P hX.1.1 rfl rfl (Nat.le_of_ble_eq_true rfl) (pn 40 rfl ?_)
  refine e_ic (0) dX7_mend_40 (by decide) (pn 41 rfl ?_)
  exact e_iret dX7_mend_41 rfl rfl rfl
theorem M_mend3 {w : Wd} {S : St} (h : MI w S) {s t : Nat} (hs : s < 12) (ht : t < 12) (hn : S.2.2.1.1 ≠ 0) (hm : ¬ isM (mdS S 0) (S.2.1 t)) : (¬ (lwA (mdS S 0) (S.2.1 t)).length = 1 → ∃ w2, CW mX7_mend [.ref 41, .int (nI s), .int (nI t)] w (some (.int (-4))) w2 ∧ FM w w2 ∧ MI w2 S) ∧ ∀ v, lwA (mdS S 0) (S.2.1 t) = [v] → ∃ w2, CW mX7_mend [.ref 41, .int (nI s), .int (nI t)] w (some (.int 1)) w2 ∧ FM w w2 ∧ MI w2 (sReg S s v) := by
  obtain ⟨hS, x, mf, lf, E, nl, g, f, hX, hW, hE⟩ := h
  have h16 := hS.n16 hn
  have C := q_isCode hX.1 (hS.cD hn x) (show t < 24 by omega) (hW.1 t ht) (hS.w ht).2
  rw [if_neg (show ¬ isM (mdS S x) (S.2.1 t) from hm)] at C
  obtain ⟨w2, mf2, lf2, nl2, CL, F2, X2, W2, N2, L2⟩ := M_looks hS hX hW hn ht
  have pre : ∀ {r : Option Value} {w' : Wd}, EW mX7_mend none 52 [.ref 41, .int (nI s), .int (nI t), dmy] [.int 1, .int (nI (lwA (mdS S 0) (S.2.1 t)).length)] w2 r w' → CW mX7_mend [.ref 41, .int (nI s), .int (nI t)] w r w' := by
    intro r w' K
    refine cw_of (M := mX7_mend) fx_X7_mend (lv := [.ref 41, .int (nI s), .int (nI t), dmy]) rfl (Nat.le_of_ble_eq_true rfl) ?_
    refine e_iload_n dX7_mend_0 rfl (pn 1 rfl ?_)
    refine c_S1 dX7_mend_1 ml_X7_53 ms_X7_isRegister (by decide) (q_isR w _) rfl rfl (Nat.le_of_ble_eq_true rfl) (pn 4 rfl ?_)
    rw [iR1 hs]
    refine e_if_eq 14 dX7_mend_4 (by decide) (fun c_9 => absurd c_9 (by decide)) (fun _ => pn 7 rfl ?_)
    refine e_iload_n dX7_mend_7 rfl (pn 8 rfl ?_)
    refine c_S1 dX7_mend_8 ml_X7_53 ms_X7_isRegister (by decide) (q_isR w _) rfl rfl (Nat.le_of_ble_eq_true rfl) (pn 11 rfl ?_)
    rw [iR1 ht]
    refine e_if_ne 16 dX7_mend_11 (by decide) (fun _ => ?_) (fun c_9 => absurd c_9 (by decide))
    refine e_aload_n dX7_mend_16 rfl (pn 17 rfl ?_)
    refine e_get dX7_mend_17 fl_X7_47 hX.1.1 rfl (pn 20 rfl ?_)
    refine e_if_ne 26 dX7_mend_20 (by decide) (fun _ => ?_) (fun c_9 => absurd c_9 (nI_ne0 (Nat.pos_of_ne_zero hn) (show S.2.2.1.1 < 2 ^ 31 by omega)))
    refine e_aload_n dX7_mend_26 rfl (pn 27 rfl ?_)
    refine e_iload_n dX7_mend_27 rfl (pn 28 rfl ?_)
    refine c_V1 dX7_mend_28 ml_X7_107 mv_X7_isCode (by decide) C hX.1.1 rfl rfl (Nat.le_of_ble_eq_true rfl) (pn 31 rfl ?_)
    refine e_if_eq 42 dX7_mend_31 (by decide) (fun _ => ?_) (fun c_9 => absurd (by decide) c_9)
    refine e_aload_n dX7_mend_42 rfl (pn 43 rfl ?_)
    refine e_iload_n dX7_mend_43 rfl (pn 44 rfl ?_)
    refine c_V0 dX7_mend_44 ml_X7_116 mv_X7_looks (by decide) CL hX.1.1 rfl rfl (Nat.le_of_ble_eq_true rfl) (pn 47 rfl ?_)
    refine e_aload_n dX7_mend_47 rfl (pn 48 rfl ?_)
    refine e_get dX7_mend_48 fl_X7_110 X2.1.1 rfl (pn 51 rfl ?_)
    refine e_ic (1) dX7_mend_51 (by decide) (pn 52 rfl ?_)
    exact K
  constructor
  · intro h1
    refine ⟨w2, pre ?_, F2, hS, _, mf2, lf2, E, nl2, g, f, X2, W2, hE⟩
    refine e_icmp_eq 58 dX7_mend_52 (by decide) (fun c_9 => absurd c_9 (fun e => h1 ((nI_eq (b := 1) (by omega) (by decide)).mp e))) (fun _ => pn 55 rfl ?_)
    refine e_bi (-4) dX7_mend_55 (by decide) (pn 57 rfl ?_)
    exact e_iret dX7_mend_57 rfl rfl rfl
  · intro v hv
    obtain ⟨ok, hl⟩ := lwA_ok (D := mdS S 0) hS.1 h16 (hS.2.1 t ht) (v := v) (by rw [hv]; exact List.mem_singleton.mpr rfl)
    have hl : v.length = S.2.2.1.1 := hl
    have hnl := (N2 0 (by rw [hv]; exact Nat.one_pos)).2.2
    rw [hv] at hnl
    have hnl : ∀ i, i < S.2.2.1.1 → nl2 i = nI (v.getD i 0) := fun i hi => by
      have := hnl i hi
      rw [Nat.mul_zero, Nat.zero_add] at this
      exact this
    refine ⟨wA w2 (va_up mf2 s (nI v.length)) (wrL lf2 s v), pre ?_, X2.FA F2 _ _, hS.reg ok, _, _, _, E, nl2, g, f, X2.sA _ _, W2.put hs (by omega), hE⟩
    have loop : ∀ (c i : Nat), i + c = S.2.2.1.1 → EW mX7_mend none 67 [.ref 41, .int (nI s), .int (nI t), .int (nI i)] [] (wA w2 (va_up mf2 s (nI (v.take i).length)) (wrL lf2 s (v.take i))) (some (.int 1)) (wA w2 (va_up mf2 s (nI v.length)) (wrL lf2 s v)) := by
      intro c
      induction c with
      | zero =>
        intro i hi
        have X3 := X2.sA (va_up mf2 s (nI (v.take i).length)) (wrL lf2 s (v.take i))
        have e : v.take i = v := List.take_of_length_le (by omega)
        refine e_iload_n dX7_mend_67 rfl (pn 68 rfl ?_)
        refine e_aload_n dX7_mend_68 rfl (pn 69 rfl ?_)
        refine e_get dX7_mend_69 fl_X7_47 X3.1.1 rfl (pn 72 rfl ?_)
        refine e_icmp_ge 92 dX7_mend_72 (by decide) (fun _ => ?_) (fun c_9 => absurd (nI_le (show S.2.2.1.1 ≤ i by omega) (by omega)) c_9)
        refine e_ic (1) dX7_mend_92 (by decide) (pn 93 rfl ?_)
        exact e_iret dX7_mend_93 rfl rfl (by rw [e])
      | succ c ih =>
        intro i hi
        have X3 := X2.sA (va_up mf2 s (nI (v.take i).length)) (wrL lf2 s (v.take i))
        have hl2 : (v.take i).length = i := by rw [List.length_take]; omega
        refine e_iload_n dX7_mend_67 rfl (pn 68 rfl ?_)
        refine e_aload_n dX7_mend_68 rfl (pn 69 rfl ?_)
        refine e_get dX7_mend_69 fl_X7_47 X3.1.1 rfl (pn 72 rfl ?_)
        refine e_icmp_ge 92 dX7_mend_72 (by decide) (fun c_9 => absurd c_9 (nI_ge (show i < S.2.2.1.1 by omega) (show S.2.2.1.1 < 2 ^ 31 by omega))) (fun _ => pn 75 rfl ?_)
        refine e_aload_n dX7_mend_75 rfl (pn 76 rfl ?_)
        refine e_iload_n dX7_mend_76 rfl (pn 77 rfl ?_)
        refine e_aload_n dX7_mend_77 rfl (pn 78 rfl ?_)
        refine e_get dX7_mend_78 fl_X7_27 X3.1.1 rfl (pn 81 rfl ?_)
        refine e_iload_n dX7_mend_81 rfl (pn 82 rfl ?_)
        refine e_iald (i) dX7_mend_82 X3.2.2.1 rfl (by omega) (by omega) (pn 83 rfl ?_)
        rw [hnl i (by omega)]
        refine c_V0 dX7_mend_83 ml_X7_61 mv_X7_puts (by decide) (q_put X2.1 (s := s) (by omega) (v := v.take i) (by omega) (v.getD i 0)) X3.1.1 rfl rfl (Nat.le_of_ble_eq_true rfl) (pn 86 rfl ?_)
        rw [← take_snoc (by omega)]
        refine s_inc [_, _, _, _] (1) dX7_mend_86 (by decide) rfl (Nat.le_of_ble_eq_true rfl) rfl (pn 89 rfl ?_)
        refine e_goto 67 dX7_mend_89 (by decide) ?_
        rw [nI_1]
        exact ih (i + 1) (by omega)
    have L := loop S.2.2.1.1 0 (by omega)
    rw [List.take_zero, wrL_nil] at L
    refine e_icmp_eq 58 dX7_mend_52 (by decide) (fun _ => ?_) (fun c_9 => absurd (by rw [hv]; rfl) c_9)
    refine e_aload_n dX7_mend_58 rfl (pn 59 rfl ?_)
    refine e_get dX7_mend_59 fl_X7_13 X2.1.1 rfl (pn 62 rfl ?_)
    refine e_iload_n dX7_mend_62 rfl (pn 63 rfl ?_)
    refine e_ic (0) dX7_mend_63 (by decide) (pn 64 rfl ?_)
    refine e_iast (s) dX7_mend_64 X2.1.2.1 rfl (by omega) (by omega) (pn 65 rfl ?_)
    refine e_ic (0) dX7_mend_65 (by decide) (pn 66 rfl ?_)
    refine s_in [_, _, _, _] dX7_mend_66 (Nat.le_of_ble_eq_true rfl) rfl (pn 67 rfl ?_)
    refine pw ?_ L
    show w2.set 42 _ = (w2.set 42 _).set 43 _
    rw [set_id (w := w2.set 42 _) (gne (by decide) X2.1.2.2)]
    rfl
