/-! the longest common part, in numbers -/
def lcsA (a : Nat) (rec : List Nat → Nat) : List Nat → Nat
  | [] => 0
  | b :: v => if a = b then rec v + 1 else max (rec (b :: v)) (lcsA a rec v)
def lcs : List Nat → List Nat → Nat
  | [], _ => 0
  | a :: u, v => lcsA a (lcs u) v
theorem lcs_n (u : List Nat) : lcs u [] = 0 := by cases u <;> rfl
theorem lcs_c (a b : Nat) (u v : List Nat) : lcs (a :: u) (b :: v) = if a = b then lcs u v + 1 else max (lcs u (b :: v)) (lcs (a :: u) v) := rfl
theorem lcs_bd : ∀ (n : Nat) (u v : List Nat), u.length + v.length ≤ n → (∀ a, lcs u v ≤ lcs (a :: u) v ∧ lcs (a :: u) v ≤ lcs u v + 1) ∧ ∀ b, lcs u v ≤ lcs u (b :: v) ∧ lcs u (b :: v) ≤ lcs u v + 1 := by
  intro n
  induction n with
  | zero =>
    intro u v h
    have hu : u = [] := List.eq_nil_of_length_eq_zero (by omega)
    have hv : v = [] := List.eq_nil_of_length_eq_zero (by omega)
    subst hu; subst hv
    exact ⟨fun a => ⟨Nat.le_refl _, Nat.zero_le _⟩, fun b => ⟨Nat.le_refl _, Nat.zero_le _⟩⟩
  | succ n ih =>
    intro u v h
    constructor
    · intro a
      cases v with
      | nil => rw [lcs_n, lcs_n]; omega
      | cons b v =>
        have h1 := ih u v (by simp at h; omega)
        have p1 := h1.1 a
        have p2 := h1.2 b
        rw [lcs_c]
        by_cases e : a = b
        · rw [if_pos e]; omega
        · rw [if_neg e]; omega
    · intro b
      cases u with
      | nil => show 0 ≤ 0 ∧ 0 ≤ 0 + 1; omega
      | cons a u =>
        have h1 := ih u v (by simp at h; omega)
        have p1 := h1.1 a
        have p2 := h1.2 b
        rw [lcs_c]
        by_cases e : a = b
        · rw [if_pos e]; omega
        · rw [if_neg e]; omega
theorem lcs_m1 (u v : List Nat) (a : Nat) : lcs u v ≤ lcs (a :: u) v := ((lcs_bd _ u v (Nat.le_refl _)).1 a).1
theorem lcs_m2 (u v : List Nat) (b : Nat) : lcs u v ≤ lcs u (b :: v) := ((lcs_bd _ u v (Nat.le_refl _)).2 b).1
theorem lcs_d1 (v : List Nat) : ∀ (k : Nat) (u : List Nat), lcs (u.drop k) v ≤ lcs u v
  | 0, u => Nat.le_refl _
  | k + 1, [] => Nat.le_refl _
  | k + 1, a :: u => Nat.le_trans (lcs_d1 v k u) (lcs_m1 u v a)
theorem lcs_d2 (u : List Nat) : ∀ (k : Nat) (v : List Nat), lcs u (v.drop k) ≤ lcs u v
  | 0, v => Nat.le_refl _
  | k + 1, [] => Nat.le_refl _
  | k + 1, b :: v => Nat.le_trans (lcs_d2 u k v) (lcs_m2 u v b)
theorem lcs_dd (u v : List Nat) {i i' j j' : Nat} (hi : i ≤ i') (hj : j ≤ j') : lcs (u.drop i') (v.drop j') ≤ lcs (u.drop i) (v.drop j) := by
  have e1 : u.drop i' = (u.drop i).drop (i' - i) := by rw [List.drop_drop]; congr 1; omega
  have e2 : v.drop j' = (v.drop j).drop (j' - j) := by rw [List.drop_drop]; congr 1; omega
  rw [e1, e2]
  exact Nat.le_trans (lcs_d1 _ _ _) (lcs_d2 _ _ _)
theorem lcs_le : ∀ (u v : List Nat), lcs u v ≤ u.length
  | [], v => Nat.le_refl _
  | a :: u, [] => by rw [lcs_n]; omega
  | a :: u, b :: v => by
    have h := (lcs_bd _ u (b :: v) (Nat.le_refl _)).1 a
    have := lcs_le u (b :: v)
    simp only [List.length_cons]
    omega
def lcX (t u : List Nat) (i j : Nat) : Nat := lcs (t.drop i) (u.drop j)
theorem lcX_in {t u : List Nat} {i j : Nat} (hi : i < t.length) (hj : j < u.length) : lcX t u i j = if t.getD i 0 = u.getD j 0 then lcX t u (i + 1) (j + 1) + 1 else max (lcX t u (i + 1) j) (lcX t u i (j + 1)) := by
  unfold lcX
  rw [drop_cons hi, drop_cons hj, lcs_c, ← drop_cons hi, ← drop_cons hj]
theorem lcX_o1 {t u : List Nat} {i j : Nat} (hi : t.length ≤ i) : lcX t u i j = 0 := by
  unfold lcX
  rw [List.drop_eq_nil_of_le hi]
  rfl
theorem lcX_o2 {t u : List Nat} {i j : Nat} (hj : u.length ≤ j) : lcX t u i j = 0 := by
  unfold lcX
  rw [List.drop_eq_nil_of_le hj, lcs_n]
theorem lcX_le (t u : List Nat) (i j : Nat) : lcX t u i j ≤ t.length := Nat.le_trans (lcs_le _ _) (by rw [List.length_drop]; omega)
theorem lgO_tb (t u : List Nat) : ∀ (k : Nat) (f : Nat → Int32), lgO t u k f = tbO (fun f i j => lgV f t u i j) (fun i j => i * 25 + j) (u.length + 1) k f := by
  have hI : ∀ (i k : Nat) (f : Nat → Int32), lgI t u i k f = tbI (fun f i j => lgV f t u i j) (fun i j => i * 25 + j) i k f := by
    intro i k
    induction k with
    | zero => intro f; rfl
    | succ k ih => intro f; rw [lgI, tbI, ih]
  intro k
  induction k with
  | zero => intro f; rfl
  | succ k ih => intro f; rw [lgO, tbO, ih, hI]
theorem mlO_tb (t u : List Nat) : ∀ (k : Nat) (f : Nat → Int32), mlO t u k f = tbO (fun f i j => mlV f t u i j) (fun i j => 30 * i + j) (u.length + 1) k f := by
  have hI : ∀ (i k : Nat) (f : Nat → Int32), mlI t u i k f = tbI (fun f i j => mlV f t u i j) (fun i j => 30 * i + j) i k f := by
    intro i k
    induction k with
    | zero => intro f; rfl
    | succ k ih => intro f; rw [mlI, tbI, ih]
  intro k
  induction k with
  | zero => intro f; rfl
  | succ k ih => intro f; rw [mlO, tbO, ih, hI]
theorem nI_max {a b : Nat} (ha : a < 2 ^ 31) (hb : b < 2 ^ 31) : (if nI a < nI b then nI b else nI a) = nI (max a b) := by
  by_cases h : a < b
  · rw [if_pos (nI_lt h hb), Nat.max_eq_right (by omega)]
  · rw [if_neg (nI_nlt (by omega) ha), Nat.max_eq_left (by omega)]
theorem nI_max2 {a b : Nat} (ha : a < 2 ^ 31) (hb : b < 2 ^ 31) : (if nI a ≤ nI b then nI b else nI a) = nI (max a b) := by
  by_cases h : a ≤ b
  · rw [if_pos (nI_le h hb), Nat.max_eq_right h]
  · rw [if_neg (nI_ge (by omega) ha), Nat.max_eq_left (by omega)]
theorem lgO_v {t u : List Nat} (ht : t.length ≤ 24) (hu : u.length ≤ 24) (f : Nat → Int32) {i j : Nat} (hi : i ≤ t.length) (hj : j ≤ u.length) : lgO t u (t.length + 1) f (i * 25 + j) = nI (lcX t u i j) := by
  rw [lgO_tb]
  refine tab (ix25 _ _ (by omega)) (fun i j => nI (lcX t u i j)) (fun f i j hi hj h => ?_) f i j (by omega) (by omega)
  show lgV f t u i j = _
  unfold lgV
  by_cases hc : i < t.length ∧ j < u.length
  · rw [if_pos hc, lcX_in hc.1 hc.2]
    have h1 : f ((i + 1) * 25 + (j + 1)) = nI (lcX t u (i + 1) (j + 1)) := h (i + 1) (j + 1) (by omega) (by omega) (by omega)
    have h2 : f ((i + 1) * 25 + j) = nI (lcX t u (i + 1) j) := h (i + 1) j (by omega) (by omega) (by omega)
    have h3 : f (i * 25 + (j + 1)) = nI (lcX t u i (j + 1)) := h i (j + 1) (by omega) (by omega) (by omega)
    rw [h1, h2, h3, nI_1, nI_max (by have := lcX_le t u (i + 1) j; omega) (by have := lcX_le t u i (j + 1); omega)]
    split <;> rfl
  · rw [if_neg hc]
    by_cases h1 : i < t.length
    · rw [lcX_o2 (by omega)]; rfl
    · rw [lcX_o1 (by omega)]; rfl
theorem mlO_v {t u : List Nat} (ht : t.length ≤ 24) (hu : u.length ≤ 24) (f : Nat → Int32) {i j : Nat} (hi : i ≤ t.length) (hj : j ≤ u.length) : mlO t u (t.length + 1) f (30 * i + j) = nI (lcX t u i j) := by
  rw [mlO_tb]
  refine tab (ix30 _ _ (by omega)) (fun i j => nI (lcX t u i j)) (fun f i j hi hj h => ?_) f i j (by omega) (by omega)
  show mlV f t u i j = _
  unfold mlV
  by_cases hc : i < t.length ∧ j < u.length
  · rw [if_pos hc, lcX_in hc.1 hc.2]
    have h1 : f (30 * i + 30 + j + 1) = nI (lcX t u (i + 1) (j + 1)) := h (i + 1) (j + 1) (by omega) (by omega) (by omega)
    have h2 : f (30 * i + 30 + j) = nI (lcX t u (i + 1) j) := h (i + 1) j (by omega) (by omega) (by omega)
    have h3 : f (30 * i + j + 1) = nI (lcX t u i (j + 1)) := h i (j + 1) (by omega) (by omega) (by omega)
    rw [h1, h2, h3, nI_1, nI_max2 (by have := lcX_le t u (i + 1) j; omega) (by have := lcX_le t u i (j + 1); omega)]
    split <;> rfl
  · rw [if_neg hc]
    by_cases h1 : i < t.length
    · rw [lcX_o2 (by omega)]; rfl
    · rw [lcX_o1 (by omega)]; rfl
/-! the next place of a letter -/
theorem nxF_spec (u : List Nat) (l : Nat) : ∀ (f p : Nat), u.length - p ≤ f → (nxF u l f p < u.length → u.getD (nxF u l f p) 0 = l) ∧ ∀ x, p ≤ x → x < nxF u l f p → u.getD x 0 ≠ l
  | 0, p, h => ⟨fun h2 => by rw [nxF] at h2; omega, fun x h1 h2 => by rw [nxF] at h2; omega⟩
  | f + 1, p, h => by
    rw [nxF]
    by_cases hc : p < u.length ∧ u.getD p 0 ≠ l
    · rw [if_pos hc]
      obtain ⟨h1, h2⟩ := nxF_spec u l f (p + 1) (by omega)
      refine ⟨h1, fun x hx hx2 => ?_⟩
      by_cases e : x = p
      · rw [e]; exact hc.2
      · exact h2 x (by omega) hx2
    · rw [if_neg hc]
      refine ⟨fun hp => ?_, fun x h1 h2 => by omega⟩
      by_cases e : u.getD p 0 = l
      · exact e
      · exact absurd ⟨hp, e⟩ hc
theorem nxW_at {u : List Nat} {l p : Nat} (h : nxW u l p < u.length) : u.getD (nxW u l p) 0 = l := (nxF_spec u l _ p (Nat.le_refl _)).1 h
theorem nxW_no {u : List Nat} {l p x : Nat} (h1 : p ≤ x) (h2 : x < nxW u l p) : u.getD x 0 ≠ l := (nxF_spec u l _ p (Nat.le_refl _)).2 x h1 h2
theorem nxW_here {u : List Nat} {l p : Nat} (hp : p < u.length) (h : u.getD p 0 = l) : nxW u l p = p := by
  have := nxW_le u l p
  by_cases e : nxW u l p = p
  · exact e
  · exact absurd h (nxW_no (Nat.le_refl p) (by omega))
theorem nxW_step {u : List Nat} {l p : Nat} (hp : p < u.length) (h : u.getD p 0 ≠ l) : nxW u l p = nxW u l (p + 1) := by
  have e : u.length - p = (u.length - (p + 1)) + 1 := by omega
  unfold nxW
  rw [e, nxF, if_pos ⟨hp, h⟩]
theorem lc_up {t u : List Nat} {l i j : Nat} (h1 : nxW t l i < t.length) (h2 : nxW u l j < u.length) : lcX t u (nxW t l i + 1) (nxW u l j + 1) + 1 ≤ lcX t u i j := by
  have e := lcX_in (t := t) (u := u) h1 h2
  rw [nxW_at h1, nxW_at h2, if_pos rfl] at e
  rw [← e]
  exact lcs_dd t u (nxW_le t l i).1 (nxW_le u l j).1
abbrev gN (t u : List Nat) (p r n : Nat) : Prop := p < t.length ∧ r < u.length ∧ lcX t u (p + 1) (r + 1) = n
theorem lc_ex {t u : List Nat} {q : Nat} (hq : ∀ a ∈ t, a < q) : ∀ (k i j n : Nat), (t.length - i) + (u.length - j) ≤ k → lcX t u i j = n + 1 → ∃ l, l < q ∧ gN t u (nxW t l i) (nxW u l j) n := by
  intro k
  induction k with
  | zero =>
    intro i j n hk h
    rw [lcX_o1 (by omega)] at h
    omega
  | succ k ih =>
    intro i j n hk h
    have hi : i < t.length := Nat.lt_of_not_le (fun q => by rw [lcX_o1 q] at h; omega)
    have hj : j < u.length := Nat.lt_of_not_le (fun q => by rw [lcX_o2 q] at h; omega)
    have h0 := h
    rw [lcX_in hi hj] at h
    by_cases e : t.getD i 0 = u.getD j 0
    · rw [if_pos e] at h
      refine ⟨t.getD i 0, ?_, ?_⟩
      · refine hq _ ?_
        simp only [List.getD_eq_getElem?_getD, List.getElem?_eq_getElem hi, Option.getD_some]
        exact List.getElem_mem hi
      · rw [nxW_here hi rfl, nxW_here hj e.symm]
        exact ⟨hi, hj, by omega⟩
    · rw [if_neg e] at h
      have hc : lcX t u (i + 1) j = n + 1 ∨ lcX t u i (j + 1) = n + 1 := by omega
      rcases hc with hc | hc
      · obtain ⟨l, hl, g1, g2, g3⟩ := ih (i + 1) j n (by omega) hc
        refine ⟨l, hl, ?_⟩
        by_cases e2 : t.getD i 0 = l
        · rw [nxW_here hi e2]
          refine ⟨hi, g2, ?_⟩
          have a1 : lcX t u (nxW t l (i + 1) + 1) (nxW u l j + 1) ≤ lcX t u (i + 1) (nxW u l j + 1) := lcs_dd t u (by have := (nxW_le t l (i + 1)).1; omega) (Nat.le_refl _)
          have a2 := lc_up (t := t) (u := u) (l := l) (i := i) (j := j) (by rw [nxW_here hi e2]; exact hi) g2
          rw [nxW_here hi e2] at a2
          omega
        · rw [nxW_step hi e2]
          exact ⟨g1, g2, g3⟩
      · obtain ⟨l, hl, g1, g2, g3⟩ := ih i (j + 1) n (by omega) hc
        refine ⟨l, hl, ?_⟩
        by_cases e2 : u.getD j 0 = l
        · rw [nxW_here hj e2]
          refine ⟨g1, hj, ?_⟩
          have a1 : lcX t u (nxW t l i + 1) (nxW u l (j + 1) + 1) ≤ lcX t u (nxW t l i + 1) (j + 1) := lcs_dd t u (Nat.le_refl _) (by have := (nxW_le u l (j + 1)).1; omega)
          have a2 := lc_up (t := t) (u := u) (l := l) (i := i) (j := j) g1 (by rw [nxW_here hj e2]; exact hj)
          rw [nxW_here hj e2] at a2
          omega
        · rw [nxW_step hj e2]
          exact ⟨g1, g2, g3⟩
/-- the first letter that goes on, in numbers -/
def fcL (t u : List Nat) (i j n : Nat) : Nat → Nat → Nat
  | 0, l => l
  | k + 1, l => if gN t u (nxW t l i) (nxW u l j) n then l else fcL t u i j n k (l + 1)
def fcO (t u : List Nat) (q : Nat) : Nat → Nat → Nat → List Nat → List Nat
  | 0, _, _, acc => acc
  | n + 1, i, j, acc => fcO t u q n (nxW t (fcL t u i j n (q - 1) 0) i + 1) (nxW u (fcL t u i j n (q - 1) 0) j + 1) (acc ++ [fcL t u i j n (q - 1) 0])
theorem gs_gN {t u : List Nat} (ht : t.length ≤ 24) (hu : u.length ≤ 24) (f : Nat → Int32) (p r : Nat) {n : Nat} (hn : n ≤ 24) : gsW (lgO t u (t.length + 1) f) t u p r (nI (n + 1)) ↔ gN t u p r n := by
  unfold gsW gN
  refine ⟨fun ⟨h1, h2, h3⟩ => ⟨h1, h2, ?_⟩, fun ⟨h1, h2, h3⟩ => ⟨h1, h2, ?_⟩⟩
  · rw [lgO_v ht hu f (by omega) (by omega), nI_1] at h3
    have := (nI_eq (by have := lcX_le t u (p + 1) (r + 1); omega) (by omega)).mp h3
    omega
  · rw [lgO_v ht hu f (by omega) (by omega), nI_1, h3]
theorem flL_fc {t u : List Nat} (ht : t.length ≤ 24) (hu : u.length ≤ 24) (f : Nat → Int32) (i j : Nat) {n : Nat} (hn : n ≤ 24) : ∀ (k l : Nat), flL (lgO t u (t.length + 1) f) t u i j (nI (n + 1)) k l = fcL t u i j n k l
  | 0, l => rfl
  | k + 1, l => by
    rw [flL, fcL, flL_fc ht hu f i j hn k (l + 1)]
    by_cases h : gN t u (nxW t l i) (nxW u l j) n
    · rw [if_pos h, if_pos ((gs_gN ht hu f _ _ hn).mpr h)]
    · rw [if_neg h, if_neg (fun e => h ((gs_gN ht hu f _ _ hn).mp e))]
theorem flO_fc {t u : List Nat} (ht : t.length ≤ 24) (hu : u.length ≤ 24) (f : Nat → Int32) (q : Nat) : ∀ (n i j : Nat) (acc : List Nat), n ≤ 24 → flO (lgO t u (t.length + 1) f) t u q n i j acc = fcO t u q n i j acc
  | 0, i, j, acc, _ => rfl
  | n + 1, i, j, acc, h => by
    rw [flO, fcO, flL_fc ht hu f i j (by omega), flO_fc ht hu f q n _ _ _ (by omega)]
theorem fcL_ok {t u : List Nat} {i j n q : Nat} (h : ∃ l, l < q ∧ gN t u (nxW t l i) (nxW u l j) n) : ∀ (k l : Nat), l + k = q - 1 → (∀ x, x < l → ¬ gN t u (nxW t x i) (nxW u x j) n) → fcL t u i j n k l < q ∧ gN t u (nxW t (fcL t u i j n k l) i) (nxW u (fcL t u i j n k l) j) n
  | 0, l, hl, hno => by
    obtain ⟨y, hy, hg⟩ := h
    rw [fcL]
    have : y = l := by
      by_cases e : y < l
      · exact absurd hg (hno y e)
      · omega
    subst this
    exact ⟨hy, hg⟩
  | k + 1, l, hl, hno => by
    rw [fcL]
    by_cases hg : gN t u (nxW t l i) (nxW u l j) n
    · rw [if_pos hg]
      exact ⟨by omega, hg⟩
    · rw [if_neg hg]
      refine fcL_ok h k (l + 1) (by omega) (fun x hx => ?_)
      by_cases e : x = l
      · rw [e]; exact hg
      · exact hno x (by omega)
theorem fcL_le (t u : List Nat) (i j n : Nat) : ∀ k l, fcL t u i j n k l ≤ l + k
  | 0, l => Nat.le_refl _
  | k + 1, l => by
    rw [fcL]
    split
    · omega
    · have := fcL_le t u i j n k (l + 1)
      omega
theorem fcO_ok (t u : List Nat) {q : Nat} (hq : 2 ≤ q) : ∀ (n i j : Nat) (acc : List Nat), (fcO t u q n i j acc).length = acc.length + n ∧ ((∀ a ∈ acc, a < q) → ∀ a ∈ fcO t u q n i j acc, a < q)
  | 0, i, j, acc => ⟨rfl, fun h => h⟩
  | n + 1, i, j, acc => by
    rw [fcO]
    have hl := fcL_le t u i j n (q - 1) 0
    obtain ⟨h1, h2⟩ := fcO_ok t u hq n (nxW t (fcL t u i j n (q - 1) 0) i + 1) (nxW u (fcL t u i j n (q - 1) 0) j + 1) (acc ++ [fcL t u i j n (q - 1) 0])
    refine ⟨by rw [h1]; simp; omega, fun h => h2 (fun a ha => ?_)⟩
    rcases List.mem_append.mp ha with h9 | h9
    · exact h a h9
    · rw [List.mem_singleton.mp h9]; omega
