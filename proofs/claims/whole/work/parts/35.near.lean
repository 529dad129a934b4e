/-! the neighbours: the class's are the model's, each once -/
theorem nd_len : ∀ (a b : List (List Nat)), a.Nodup → (∀ x ∈ a, x ∈ b) → a.length ≤ b.length
  | [], b, _, _ => Nat.zero_le _
  | x :: a, b, h, hs => by
    have hx := hs x List.mem_cons_self
    rw [List.nodup_cons] at h
    have := nd_len a (b.erase x) h.2 (fun y hy => (List.mem_erase_of_ne (show y ≠ x from fun e => h.1 (e ▸ hy))).mpr (hs y (List.mem_cons_of_mem _ hy)))
    rw [List.length_erase_of_mem hx] at this
    have hp := List.length_pos_of_mem hx
    rw [List.length_cons]
    omega
theorem nd_eq {a b : List (List Nat)} (ha : a.Nodup) (hb : b.Nodup) (h : ∀ x, x ∈ a ↔ x ∈ b) : a.length = b.length := Nat.le_antisymm (nd_len a b ha (fun x hx => (h x).mp hx)) (nd_len b a hb (fun x hx => (h x).mpr hx))
def ccI (C : Nat → Prop) [DecidablePred C] (f : Nat → List Nat) : Nat → Nat → List (List Nat)
  | 0, _ => []
  | k + 1, l => (if C l then [f l] else []) ++ ccI C f k (l + 1)
def ccO (g : Nat → List (List Nat)) : Nat → Nat → List (List Nat)
  | 0, _ => []
  | k + 1, i => g i ++ ccO g k (i + 1)
theorem ccI_mem {C : Nat → Prop} [DecidablePred C] {f : Nat → List Nat} {v : List Nat} : ∀ (k l : Nat), v ∈ ccI C f k l ↔ ∃ l', l ≤ l' ∧ l' < l + k ∧ C l' ∧ v = f l'
  | 0, l => ⟨fun h => (by cases h), fun ⟨l', h1, h2, _⟩ => (by omega)⟩
  | k + 1, l => by
    rw [ccI, List.mem_append, ccI_mem k (l + 1)]
    constructor
    · rintro (h | ⟨l', h1, h2, h3, h4⟩)
      · by_cases c : C l
        · rw [if_pos c] at h
          exact ⟨l, Nat.le_refl _, by omega, c, List.mem_singleton.mp h⟩
        · rw [if_neg c] at h; cases h
      · exact ⟨l', by omega, by omega, h3, h4⟩
    · rintro ⟨l', h1, h2, h3, h4⟩
      by_cases e : l' = l
      · subst e
        rw [if_pos h3]
        exact Or.inl (List.mem_singleton.mpr h4)
      · exact Or.inr ⟨l', by omega, by omega, h3, h4⟩
theorem ccI_nd {C : Nat → Prop} [DecidablePred C] {f : Nat → List Nat} : ∀ (k l : Nat), (∀ x y, l ≤ x → x < y → y < l + k → C x → C y → f x ≠ f y) → (ccI C f k l).Nodup
  | 0, l, _ => List.nodup_nil
  | k + 1, l, h => by
    have ih := ccI_nd (C := C) (f := f) k (l + 1) (fun x y h1 h2 h3 => h x y (by omega) h2 (by omega))
    rw [ccI]
    by_cases c : C l
    · rw [if_pos c]
      show (f l :: ccI C f k (l + 1)).Nodup
      rw [List.nodup_cons]
      refine ⟨fun hm => ?_, ih⟩
      obtain ⟨l', h1, h2, h3, h4⟩ := (ccI_mem k (l + 1)).mp hm
      exact h l l' (Nat.le_refl _) (by omega) (by omega) c h3 h4
    · rw [if_neg c]; exact ih
theorem ccO_mem {g : Nat → List (List Nat)} {v : List Nat} : ∀ (k i : Nat), v ∈ ccO g k i ↔ ∃ i', i ≤ i' ∧ i' < i + k ∧ v ∈ g i'
  | 0, i => ⟨fun h => (by cases h), fun ⟨l', h1, h2, _⟩ => (by omega)⟩
  | k + 1, i => by
    rw [ccO, List.mem_append, ccO_mem k (i + 1)]
    constructor
    · rintro (h | ⟨l', h1, h2, h3⟩)
      · exact ⟨i, Nat.le_refl _, by omega, h⟩
      · exact ⟨l', by omega, by omega, h3⟩
    · rintro ⟨l', h1, h2, h3⟩
      by_cases e : l' = i
      · subst e; exact Or.inl h3
      · exact Or.inr ⟨l', by omega, by omega, h3⟩
theorem ccO_nd {g : Nat → List (List Nat)} : ∀ (k i : Nat), (∀ x, i ≤ x → x < i + k → (g x).Nodup) → (∀ x y, i ≤ x → x < y → y < i + k → ∀ v, v ∈ g x → v ∉ g y) → (ccO g k i).Nodup
  | 0, i, _, _ => List.nodup_nil
  | k + 1, i, h, h2 => by
    rw [ccO, List.nodup_append]
    refine ⟨h i (Nat.le_refl _) (by omega), ccO_nd k (i + 1) (fun x a b => h x (by omega) (by omega)) (fun x y a b c => h2 x y (by omega) b (by omega)), fun v hv w hw e => ?_⟩
    subst e
    obtain ⟨l', h3, h4, h5⟩ := (ccO_mem k (i + 1)).mp hw
    exact h2 i l' (Nat.le_refl _) (by omega) (by omega) v hv h5
section FOLD
variable (q n m a b lm : Nat)
def fdN (vs : List (List Nat)) (st : NS) : NS := vs.foldl (fun st v => stN q n m a b lm v st) st
theorem fdN_app (x y : List (List Nat)) (st : NS) : fdN q n m a b lm (x ++ y) st = fdN q n m a b lm y (fdN q n m a b lm x st) := by
  unfold fdN; rw [List.foldl_append]
theorem fdN_v : ∀ (vs : List (List Nat)) (st : NS), (fdN q n m a b lm vs st).1 = st.1 + (vs.filter (fun v => decide (hoB q n m a b lm v))).length ∧ (fdN q n m a b lm vs st).2.2 = (vs.filter (fun v => decide (hoB q n m a b lm v))).getLastD st.2.2
  | [], st => ⟨rfl, rfl⟩
  | v :: vs, st => by
    have ih := fdN_v vs (stN q n m a b lm v st)
    have e : fdN q n m a b lm (v :: vs) st = fdN q n m a b lm vs (stN q n m a b lm v st) := rfl
    rw [e, ih.1, ih.2]
    unfold stN
    by_cases h : hoB q n m a b lm v
    · rw [if_pos h, List.filter_cons_of_pos (by simpa using h)]
      refine ⟨by simp; omega, ?_⟩
      rw [List.getLastD_cons]
    · rw [if_neg h, List.filter_cons_of_neg (by simpa using h)]
      exact ⟨rfl, rfl⟩
theorem ntI_fd (u : List Nat) (i : Nat) : ∀ (k l : Nat) (st : NS), ntI q n m a b lm u i k l st = fdN q n m a b lm (ccI (fun l => ¬ l = u.getD i 0) (fun l => u.set i l) k l) st
  | 0, l, st => rfl
  | k + 1, l, st => by
    rw [ntI, ccI, fdN_app, ntI_fd u i k (l + 1)]
    congr 1
    by_cases h : l = u.getD i 0
    · rw [if_pos h, if_neg (fun e => e h)]; rfl
    · rw [if_neg h, if_pos h]; rfl
theorem ntO_fd (u : List Nat) : ∀ (k i : Nat) (st : NS), ntO q n m a b lm u k i st = fdN q n m a b lm (ccO (fun i => ccI (fun l => ¬ l = u.getD i 0) (fun l => u.set i l) q 0) k i) st
  | 0, i, st => rfl
  | k + 1, i, st => by rw [ntO, ccO, fdN_app, ntI_fd, ntO_fd u k (i + 1)]
theorem ngO_fd (u : List Nat) : ∀ (k i : Nat) (st : NS), ngO q n m a b lm u k i st = fdN q n m a b lm (ccI (fun i => ngC u i) (fun i => u.eraseIdx i) k i) st
  | 0, i, st => rfl
  | k + 1, i, st => by
    rw [ngO, ccI, fdN_app, ngO_fd u k (i + 1)]
    congr 1
    by_cases h : ngC u i
    · rw [if_pos h, if_pos h]; rfl
    · rw [if_neg h, if_neg h]; rfl
theorem nlI_fd (u : List Nat) (i : Nat) : ∀ (k l : Nat) (st : NS), nlI q n m a b lm u i k l st = fdN q n m a b lm (ccI (fun l => nlC u i l) (fun l => u.insertIdx i l) k l) st
  | 0, l, st => rfl
  | k + 1, l, st => by
    rw [nlI, ccI, fdN_app, nlI_fd u i k (l + 1)]
    congr 1
    by_cases h : nlC u i l
    · rw [if_pos h, if_pos h]; rfl
    · rw [if_neg h, if_neg h]; rfl
theorem nlO_fd (u : List Nat) : ∀ (k i : Nat) (st : NS), nlO q n m a b lm u k i st = fdN q n m a b lm (ccO (fun i => ccI (fun l => nlC u i l) (fun l => u.insertIdx i l) q 0) k i) st
  | 0, i, st => rfl
  | k + 1, i, st => by rw [nlO, ccO, fdN_app, nlI_fd, nlO_fd u k (i + 1)]
end FOLD
theorem set_get {u : List Nat} {i l k : Nat} (hi : i < u.length) : (u.set i l).getD k 0 = if k = i then l else u.getD k 0 := by
  simp only [List.getD_eq_getElem?_getD]
  by_cases e : k = i
  · subst e; rw [List.getElem?_set_self hi, if_pos rfl]; rfl
  · rw [List.getElem?_set_ne (fun q => e q.symm), if_neg e]
theorem er_eq {u : List Nat} {i : Nat} (hi : i + 1 < u.length) (h : u.getD (i + 1) 0 = u.getD i 0) : u.eraseIdx (i + 1) = u.eraseIdx i := by
  refine list_ext (by rw [List.length_eraseIdx_of_lt hi, List.length_eraseIdx_of_lt (by omega)]) (fun k _ => ?_)
  rw [erase_get, erase_get]
  by_cases h1 : k < i
  · rw [if_pos (by omega), if_pos h1]
  · by_cases h2 : k = i
    · subst h2
      rw [if_pos (by omega), if_neg h1]
      exact h.symm
    · rw [if_neg (by omega), if_neg h1]
theorem er_first {u : List Nat} : ∀ (i : Nat), i < u.length → ∃ i', i' ≤ i ∧ ngC u i' ∧ u.eraseIdx i = u.eraseIdx i'
  | 0, _ => ⟨0, Nat.le_refl _, Or.inl rfl, rfl⟩
  | i + 1, hi => by
    by_cases h : u.getD (i + 1) 0 = u.getD i 0
    · obtain ⟨i', h1, h2, h3⟩ := er_first (u := u) i (by omega)
      exact ⟨i', by omega, h2, (er_eq hi h).trans h3⟩
    · exact ⟨i + 1, Nat.le_refl _, Or.inr h, rfl⟩
theorem in_eq {u : List Nat} {i l : Nat} (hi : i < u.length) (h : l = u.getD i 0) : u.insertIdx i l = u.insertIdx (i + 1) l := by
  refine list_ext (by rw [List.length_insertIdx_of_le_length (by omega), List.length_insertIdx_of_le_length (by omega)]) (fun k _ => ?_)
  rw [ins_get (by omega), ins_get (by omega)]
  by_cases h1 : k < i
  · rw [if_pos h1, if_pos (by omega)]
  · rw [if_neg h1]
    by_cases h2 : k = i
    · subst h2
      rw [if_pos rfl, if_pos (by omega)]
      exact h
    · rw [if_neg h2]
      by_cases h3 : k = i + 1
      · subst h3
        rw [if_neg (by omega), if_pos rfl]
        exact h.symm
      · rw [if_neg (by omega), if_neg h3]
theorem in_last {u : List Nat} {l : Nat} : ∀ (d i : Nat), i + d = u.length → ∃ i', i ≤ i' ∧ i' ≤ u.length ∧ nlC u i' l ∧ u.insertIdx i l = u.insertIdx i' l
  | 0, i, hi => ⟨i, Nat.le_refl _, by omega, Or.inl (by omega), rfl⟩
  | d + 1, i, hi => by
    by_cases h : l = u.getD i 0
    · obtain ⟨i', h1, h2, h3, h4⟩ := in_last (u := u) (l := l) d (i + 1) (by omega)
      exact ⟨i', by omega, h2, h3, (in_eq (by omega) h).trans h4⟩
    · exact ⟨i, Nat.le_refl _, by omega, Or.inr h, rfl⟩
/-- the numbers agree, and the one that was found -/
theorem nb_gen {D : Md} {b lm : Nat} (hb : bOK D.1 D.2.2.2.2.1 b lm) (hq : 2 ≤ D.1 ∧ D.1 ≤ 4) (hm : 0 < D.2.2.1) {u : List Nat} {T : List (List Nat)} (hT : T.Nodup) (hu : u ∉ T) (hmem : ∀ v, isM D v → ((v = u ∨ edS D u v 0 ∨ edS D u v 1 ∨ edS D u v 2) ↔ (v = u ∨ v ∈ T))) (st : NS) :
    (lwA D u).length = (T.filter (fun v => decide (hoB D.1 D.2.1 D.2.2.1 D.2.2.2.1 b lm v))).length + (if isM D u then 1 else 0) ∧ (¬ isM D u → ∀ y, lwA D u = [y] → (T.filter (fun v => decide (hoB D.1 D.2.1 D.2.2.1 D.2.2.2.1 b lm v))).getLastD st.2.2 = y) := by
  have hF : ∀ v, v ∈ T.filter (fun v => decide (hoB D.1 D.2.1 D.2.2.1 D.2.2.2.1 b lm v)) ↔ v ∈ T ∧ isM D v := fun v => by
    rw [List.mem_filter, decide_eq_true_iff, ho_is hb hq hm]
  have nF : (T.filter (fun v => decide (hoB D.1 D.2.1 D.2.2.1 D.2.2.2.1 b lm v))).Nodup := List.Pairwise.filter _ hT
  generalize T.filter (fun v => decide (hoB D.1 D.2.1 D.2.2.1 D.2.2.2.1 b lm v)) = F at *
  have nA := (lwA_mem D u []).1
  have mA : ∀ v, v ∈ lwA D u ↔ (isM D v ∧ v = u) ∨ v ∈ F := fun v => by
    rw [(lwA_mem D u v).2, hF]
    constructor
    · rintro ⟨h1, h2⟩
      rcases (hmem v h1).mp h2 with h3 | h3
      · exact Or.inl ⟨h1, h3⟩
      · exact Or.inr ⟨h3, h1⟩
    · rintro (⟨h1, h2⟩ | ⟨h1, h2⟩)
      · exact ⟨h1, Or.inl h2⟩
      · exact ⟨h2, (hmem v h2).mpr (Or.inr h1)⟩
  by_cases hM : isM D u
  · rw [if_pos hM]
    refine ⟨?_, fun h => absurd hM h⟩
    have := nd_eq nA (b := u :: F) (List.nodup_cons.mpr ⟨fun h => hu ((hF u).mp h).1, nF⟩) (fun v => by
      rw [mA, List.mem_cons]
      exact ⟨fun h => h.elim (fun h => Or.inl h.2) Or.inr, fun h => h.elim (fun h => Or.inl ⟨h ▸ hM, h⟩) Or.inr⟩)
    rw [this, List.length_cons]
  · rw [if_neg hM]
    have mA2 : ∀ v, v ∈ lwA D u ↔ v ∈ F := fun v => by
      rw [mA]
      exact ⟨fun h => h.elim (fun h => absurd (h.2 ▸ h.1) hM) id, Or.inr⟩
    have hl := nd_eq nA nF mA2
    refine ⟨by rw [hl, Nat.add_zero], fun _ y hy => ?_⟩
    rw [hy] at hl mA2
    match F, hl, mA2 with
    | [z], _, mA2 =>
      have := (mA2 z).mpr (List.mem_singleton.mpr rfl)
      exact List.mem_singleton.mp this
theorem nb_ok {D : Md} (hD : cD D) {b lm : Nat} (hb : bOK D.1 D.2.2.2.2.1 b lm) {u : List Nat} (hu : ∀ x ∈ u, x < D.1) (st : NS) (h0 : st.1 = 0) :
    (lwA D u).length = (nbV D.1 D.2.1 D.2.2.1 D.2.2.2.1 b lm u st).1 + (if isM D u then 1 else 0) ∧ (¬ isM D u → ∀ y, lwA D u = [y] → (nbV D.1 D.2.1 D.2.2.1 D.2.2.2.1 b lm u st).2.2 = y) := by
  obtain ⟨hq, hn, hm, ha⟩ := hD
  have len0 : ∀ v, edS D u v 0 → v.length + 1 = u.length := fun v ⟨i, l, a1, a2, e⟩ => by
    have a1 : i < u.length := a1
    rw [e, edW_0 l a1, List.length_eraseIdx_of_lt a1]; omega
  have len1 : ∀ v, edS D u v 1 → v.length = u.length + 1 := fun v ⟨i, l, a1, a2, e⟩ => by
    have a1 : i < u.length + 1 := a1
    rw [e, edW_1 l (by omega), List.length_insertIdx_of_le_length (by omega)]
  have len2 : ∀ v, edS D u v 2 → v.length = u.length := fun v ⟨i, l, a1, a2, e⟩ => by
    have a1 : i < u.length := a1
    rw [e, edW_2 l a1, List.length_set]
  have close : ∀ T : List (List Nat), T.Nodup → u ∉ T → (∀ v, isM D v → ((v = u ∨ edS D u v 0 ∨ edS D u v 1 ∨ edS D u v 2) ↔ (v = u ∨ v ∈ T))) → nbV D.1 D.2.1 D.2.2.1 D.2.2.2.1 b lm u st = fdN D.1 D.2.1 D.2.2.1 D.2.2.2.1 b lm T st → (lwA D u).length = (nbV D.1 D.2.1 D.2.2.1 D.2.2.2.1 b lm u st).1 + (if isM D u then 1 else 0) ∧ (¬ isM D u → ∀ y, lwA D u = [y] → (nbV D.1 D.2.1 D.2.2.1 D.2.2.2.1 b lm u st).2.2 = y) := by
    intro T t1 t2 t3 e
    have V := fdN_v D.1 D.2.1 D.2.2.1 D.2.2.2.1 b lm T st
    rw [e, V.1, V.2, h0, Nat.zero_add]
    exact nb_gen hb hq (by omega) t1 t2 t3 st
  by_cases c1 : u.length = D.2.1
  · refine close _ ?_ ?_ ?_ (by unfold nbV; rw [if_pos c1, ntO_fd])
    · refine ccO_nd _ _ (fun i _ hi => ccI_nd _ _ (fun x y _ hxy _ cx cy e => ?_)) (fun i i' _ hii hi' v hv hv' => ?_)
      · have := congrArg (fun z => z.getD i 0) e
        rw [set_get (by omega), set_get (by omega), if_pos rfl, if_pos rfl] at this
        omega
      · obtain ⟨l, -, -, cl, e⟩ := (ccI_mem _ _).mp hv
        obtain ⟨l', -, -, cl', e'⟩ := (ccI_mem _ _).mp hv'
        have := congrArg (fun z => z.getD i 0) (e.symm.trans e')
        rw [set_get (by omega), set_get (by omega), if_pos rfl, if_neg (by omega)] at this
        exact cl this
    · intro hm9
      obtain ⟨i, -, hi, hm9⟩ := (ccO_mem _ _).mp hm9
      obtain ⟨l, -, -, cl, e⟩ := (ccI_mem _ _).mp hm9
      have := congrArg (fun z => z.getD i 0) e
      rw [set_get (by omega), if_pos rfl] at this
      exact cl this.symm
    · intro v hv
      have hl : v.length = D.2.1 := hv.1
      constructor
      · rintro (h | h | h | ⟨i, l, a1, a2, e⟩)
        · exact Or.inl h
        · have := len0 v h; omega
        · have := len1 v h; omega
        · have a1 : i < u.length := a1
          have a2 : l < D.1 := a2
          rw [edW_2 l a1] at e
          by_cases c : l = u.getD i 0
          · left
            rw [e]
            refine list_ext (by rw [List.length_set]) (fun k _ => ?_)
            rw [set_get a1]
            by_cases ek : k = i
            · rw [if_pos ek, ek]; exact c
            · rw [if_neg ek]
          · right
            exact (ccO_mem _ _).mpr ⟨i, Nat.zero_le _, by omega, (ccI_mem _ _).mpr ⟨l, Nat.zero_le _, by omega, c, e⟩⟩
      · rintro (h | h)
        · exact Or.inl h
        · obtain ⟨i, -, hi, h⟩ := (ccO_mem _ _).mp h
          obtain ⟨l, -, hl2, cl, e⟩ := (ccI_mem _ _).mp h
          exact Or.inr (Or.inr (Or.inr ⟨i, l, by show i < u.length; omega, by show l < D.1; omega, by rw [edW_2 l (by omega)]; exact e⟩))
  · by_cases c2 : u.length = D.2.1 + 1
    · refine close _ ?_ ?_ ?_ (by unfold nbV; rw [if_neg c1, if_pos c2, ngO_fd])
      · refine ccI_nd _ _ (fun x y _ hxy hy cx cy e => ?_)
        have := congrArg (fun z => z.getD (y - 1) 0) e
        rw [erase_get, erase_get, if_neg (by omega), if_pos (by omega), show y - 1 + 1 = y by omega] at this
        rcases cy with cy | cy
        · omega
        · exact cy this
      · intro hm9
        obtain ⟨i, -, hi, ci, e⟩ := (ccI_mem _ _).mp hm9
        have := congrArg List.length e
        rw [List.length_eraseIdx_of_lt (by omega)] at this
        omega
      · intro v hv
        have hl : v.length = D.2.1 := hv.1
        constructor
        · rintro (h | ⟨i, l, a1, a2, e⟩ | h | h)
          · exact Or.inl h
          · have a1 : i < u.length := a1
            rw [edW_0 l a1] at e
            obtain ⟨i', b1, b2, b3⟩ := er_first i a1
            exact Or.inr ((ccI_mem _ _).mpr ⟨i', Nat.zero_le _, by omega, b2, e.trans b3⟩)
          · have := len1 v h; omega
          · have := len2 v h; omega
        · rintro (h | h)
          · exact Or.inl h
          · obtain ⟨i, -, hi, ci, e⟩ := (ccI_mem _ _).mp h
            exact Or.inr (Or.inl ⟨i, 0, by show i < u.length; omega, by show 0 < 1; omega, by rw [edW_0 0 (by omega)]; exact e⟩)
    · by_cases c3 : u.length + 1 = D.2.1
      · refine close _ ?_ ?_ ?_ (by unfold nbV; rw [if_neg c1, if_neg c2, if_pos c3, nlO_fd])
        · refine ccO_nd _ _ (fun i _ hi => ccI_nd _ _ (fun x y _ hxy _ cx cy e => ?_)) (fun i i' _ hii hi' v hv hv' => ?_)
          · have := congrArg (fun z => z.getD i 0) e
            rw [ins_get (by omega), ins_get (by omega), if_neg (by omega), if_pos rfl, if_neg (by omega), if_pos rfl] at this
            omega
          · obtain ⟨l, -, -, cl, e⟩ := (ccI_mem _ _).mp hv
            obtain ⟨l', -, -, cl', e'⟩ := (ccI_mem _ _).mp hv'
            have := congrArg (fun z => z.getD i 0) (e.symm.trans e')
            rw [ins_get (by omega), ins_get (by omega), if_neg (by omega), if_pos rfl, if_pos (by omega)] at this
            rcases cl with cl | cl
            · omega
            · exact cl this
        · intro hm9
          obtain ⟨i, -, hi, hm9⟩ := (ccO_mem _ _).mp hm9
          obtain ⟨l, -, -, cl, e⟩ := (ccI_mem _ _).mp hm9
          have := congrArg List.length e
          rw [List.length_insertIdx_of_le_length (by omega)] at this
          omega
        · intro v hv
          have hl : v.length = D.2.1 := hv.1
          constructor
          · rintro (h | h | ⟨i, l, a1, a2, e⟩ | h)
            · exact Or.inl h
            · have := len0 v h; omega
            · have a1 : i < u.length + 1 := a1
              have a2 : l < D.1 := a2
              rw [edW_1 l (by omega)] at e
              obtain ⟨i', b1, b2, b3, b4⟩ := in_last (u := u) (l := l) (u.length - i) i (by omega)
              exact Or.inr ((ccO_mem _ _).mpr ⟨i', Nat.zero_le _, by omega, (ccI_mem _ _).mpr ⟨l, Nat.zero_le _, by omega, b3, e.trans b4⟩⟩)
            · have := len2 v h; omega
          · rintro (h | h)
            · exact Or.inl h
            · obtain ⟨i, -, hi, h⟩ := (ccO_mem _ _).mp h
              obtain ⟨l, -, hl2, cl, e⟩ := (ccI_mem _ _).mp h
              exact Or.inr (Or.inr (Or.inl ⟨i, l, by show i < u.length + 1; omega, by show l < D.1; omega, by rw [edW_1 l (by omega)]; exact e⟩))
      · refine close [] List.nodup_nil (fun h => by cases h) (fun v hv => ?_) (by unfold nbV; rw [if_neg c1, if_neg c2, if_neg c3]; rfl)
        have hl : v.length = D.2.1 := hv.1
        constructor
        · rintro (h | h | h | h)
          · exact Or.inl h
          · have := len0 v h; omega
          · have := len1 v h; omega
          · have := len2 v h; omega
        · rintro (h | h)
          · exact Or.inl h
          · cases h
