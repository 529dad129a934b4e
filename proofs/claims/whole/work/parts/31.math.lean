/-! how often a word lies in another -/
def em : List Nat → List Nat → Nat
  | [], _ => 1
  | _ :: _, [] => 0
  | a :: s, b :: t => em (a :: s) t + (if a = b then em s t else 0)
theorem em_nil (t : List Nat) : em [] t = 1 := by cases t <;> rfl
theorem em_cn (a : Nat) (s : List Nat) : em (a :: s) [] = 0 := rfl
theorem em_cc (a b : Nat) (s t : List Nat) : em (a :: s) (b :: t) = em (a :: s) t + (if a = b then em s t else 0) := by rw [em]
theorem em_snoc (a b : Nat) : ∀ (t s : List Nat), em (s ++ [a]) (t ++ [b]) = em (s ++ [a]) t + (if a = b then em s t else 0)
  | [], [] => by simp [em_cc, em_cn, em_nil]
  | [], c :: s => by
    rw [List.cons_append, List.nil_append, em_cc, em_cn, em_cn]
    have e : em (s ++ [a]) [] = 0 := by cases s <;> rfl
    rw [e]
    split <;> split <;> rfl
  | d :: t, [] => by
    have h := em_snoc a b t []
    simp only [List.nil_append] at h
    rw [List.nil_append, List.cons_append, em_cc, em_cc, h, em_nil, em_nil, em_nil]
    omega
  | d :: t, c :: s => by
    have h1 := em_snoc a b t (c :: s)
    have h2 := em_snoc a b t s
    rw [List.cons_append] at h1
    rw [List.cons_append, List.cons_append, em_cc, em_cc, h1, h2, em_cc]
    by_cases e1 : c = d <;> by_cases e2 : a = b <;> simp [e1, e2] <;> omega
theorem em_le : ∀ (t s : List Nat), em s t ≤ 2 ^ t.length
  | [], [] => by decide
  | [], a :: s => by rw [em_cn]; exact Nat.zero_le _
  | b :: t, [] => by rw [em_nil]; exact Nat.pow_pos (by decide)
  | b :: t, a :: s => by
    have h1 := em_le t (a :: s)
    have h2 := em_le t s
    rw [em_cc, List.length_cons, Nat.pow_succ]
    split <;> omega
theorem em_sub : ∀ (t s : List Nat), 0 < em s t ↔ s.Sublist t
  | [], [] => ⟨fun _ => List.Sublist.slnil, fun _ => by decide⟩
  | [], a :: s => ⟨fun h => by rw [em_cn] at h; omega, fun h => by cases h⟩
  | b :: t, [] => ⟨fun _ => List.nil_sublist _, fun _ => by rw [em_nil]; decide⟩
  | b :: t, a :: s => by
    have h1 := em_sub t (a :: s)
    have h2 := em_sub t s
    rw [em_cc]
    constructor
    · intro h
      by_cases e : a = b
      · by_cases h3 : 0 < em (a :: s) t
        · exact (h1.mp h3).cons b
        · rw [if_pos e] at h
          subst e
          exact (h2.mp (by omega)).cons_cons a
      · rw [if_neg e] at h
        exact (h1.mp (by omega)).cons b
    · intro h
      cases h with
      | cons _ h => have := h1.mpr h; omega
      | cons_cons _ h => rw [if_pos rfl]; have := h2.mpr h; omega
theorem lyO_tb (t u : List Nat) : ∀ (k : Nat) (f : Nat → Int64), lyO t u k f = tbO (fun f i j => lyV f t u i j) (fun i j => 30 * i + j) (u.length + 1) k f := by
  have hI : ∀ (i k : Nat) (f : Nat → Int64), lyI t u i k f = tbI (fun f i j => lyV f t u i j) (fun i j => 30 * i + j) i k f := by
    intro i k
    induction k with
    | zero => intro f; rfl
    | succ k ih => intro f; rw [lyI, tbI, ih]
  intro k
  induction k with
  | zero => intro f; rfl
  | succ k ih => intro f; rw [lyO, tbO, ih, hI]
theorem lyO_v {s t : List Nat} (ht : t.length ≤ 24) (f : Nat → Int64) {i j : Nat} (hi : i ≤ s.length) (hj : j ≤ t.length) : lyO s t (s.length + 1) f (30 * i + j) = lN (em (s.drop i) (t.drop j)) := by
  rw [lyO_tb]
  refine tab (ix30 _ _ (by omega)) (fun i j => lN (em (s.drop i) (t.drop j))) (fun f i j hi hj h => ?_) f i j (by omega) (by omega)
  show lyV f s t i j = lN (em (s.drop i) (t.drop j))
  unfold lyV
  by_cases hc : i < s.length ∧ j < t.length
  · have h1 : f (30 * i + j + 1) = lN (em (s.drop i) (t.drop (j + 1))) := h i (j + 1) (by omega) (by omega) (by omega)
    have h2 : f (30 * i + 30 + j + 1) = lN (em (s.drop (i + 1)) (t.drop (j + 1))) := h (i + 1) (j + 1) (by omega) (by omega) (by omega)
    rw [if_pos hc, h1, h2, drop_cons hc.2]
    rw [drop_cons hc.1, em_cc, ← lN_add]
    congr 1
    split <;> rfl
  · rw [if_neg hc]
    by_cases e : i = s.length
    · rw [if_pos e, e, List.drop_length, em_nil]; rfl
    · rw [if_neg e, drop_cons (show i < s.length by omega), List.drop_eq_nil_of_le (show t.length ≤ j by omega), em_cn]; rfl
theorem lyO_0 {s t : List Nat} (ht : t.length ≤ 24) (f : Nat → Int64) : lyO s t (s.length + 1) f 0 = lN (em s t) := lyO_v ht f (i := 0) (j := 0) (Nat.zero_le _) (Nat.zero_le _)
/-! the class's way: from the front -/
theorem hoI_v (s : List Nat) (l : Nat) : ∀ (k : Nat) (e : Nat → Int64) (x : Nat), hoI s l k e x = if 1 ≤ x ∧ x ≤ k then e x + (if s.getD (x - 1) 0 = l then e (x - 1) else 0) else e x
  | 0, e, x => by rw [hoI, if_neg (by omega)]
  | k + 1, e, x => by
    rw [hoI, hoI_v s l k]
    by_cases e1 : x = k + 1
    · subst e1
      rw [if_neg (show ¬ (1 ≤ k + 1 ∧ k + 1 ≤ k) by omega), if_pos (show 1 ≤ k + 1 ∧ k + 1 ≤ k + 1 by omega), Nat.add_sub_cancel]
      by_cases e2 : s.getD k 0 = l
      · rw [if_pos e2, if_pos e2, up_eq]
      · rw [if_neg e2, if_neg e2]
        exact (Int64.add_zero _).symm
    · by_cases h1 : 1 ≤ x ∧ x ≤ k
      · rw [if_pos h1, if_pos (show 1 ≤ x ∧ x ≤ k + 1 by omega)]
        by_cases e2 : s.getD k 0 = l
        · rw [if_pos e2, up_ne _ _ e1, up_ne _ _ (show x - 1 ≠ k + 1 by omega)]
        · rw [if_neg e2]
      · rw [if_neg h1, if_neg (show ¬ (1 ≤ x ∧ x ≤ k + 1) by omega)]
        by_cases e2 : s.getD k 0 = l
        · rw [if_pos e2, up_ne _ _ e1]
        · rw [if_neg e2]
theorem hoZ_v : ∀ (n k : Nat) (e : Nat → Int64) (x : Nat), hoZ n k e x = if k ≤ x ∧ x < k + n then 0 else e x
  | 0, k, e, x => by rw [hoZ, if_neg (by omega)]
  | n + 1, k, e, x => by
    rw [hoZ, hoZ_v n (k + 1)]
    by_cases e1 : x = k
    · subst e1
      rw [if_neg (by omega), if_pos (by omega), up_eq]
    · rw [up_ne _ _ e1]
      by_cases h1 : k ≤ x ∧ x < k + (n + 1)
      · rw [if_pos h1, if_pos (by omega)]
      · rw [if_neg h1, if_neg (by omega)]
theorem hoO_v {s t : List Nat} : ∀ (n i : Nat) (e : Nat → Int64), i + n = t.length → (∀ k, k ≤ s.length → e k = lN (em (s.take k) (t.take i))) → ∀ k, k ≤ s.length → hoO s t n i e k = lN (em (s.take k) t)
  | 0, i, e, hi, h, k, hk => by rw [hoO, h k hk, List.take_of_length_le (show t.length ≤ i by omega)]
  | n + 1, i, e, hi, h, k, hk => by
    rw [hoO]
    refine hoO_v n (i + 1) _ (by omega) (fun x hx => ?_) k hk
    rw [hoI_v, take_snoc (show i < t.length by omega)]
    cases x with
    | zero =>
      rw [if_neg (by omega), h 0 (Nat.zero_le _), List.take_zero, em_nil, em_nil]
    | succ x =>
      rw [if_pos (by omega), Nat.add_sub_cancel, take_snoc (show x < s.length by omega), em_snoc, ← take_snoc (show x < s.length by omega), h (x + 1) hx, h x (by omega), ← lN_add]
      congr 1
      split <;> rfl
theorem hoV_v (s t : List Nat) (e : Nat → Int64) : hoV s t e s.length = lN (em s t) := by
  unfold hoV
  rw [hoO_v (s := s) (t := t) t.length 0 _ (by omega) (fun k hk => ?_) s.length (Nat.le_refl _), List.take_length]
  rw [hoZ_v]
  cases k with
  | zero => rw [if_neg (by omega), up_eq, List.take_zero, em_nil]; rfl
  | succ k =>
    rw [if_pos (by omega), List.take_zero]
    have : em (s.take (k + 1)) [] = 0 := by
      rw [take_snoc (show k < s.length by omega)]
      cases s.take k <;> rfl
    rw [this]; rfl
/-! edits: the class's short way is as good -/
def edA (a : Nat) (n : Nat) (rec : List Nat → Nat) : List Nat → Nat
  | [] => n + 1
  | b :: v => min (rec v + (if a = b then 0 else 1)) (min (rec (b :: v) + 1) (edA a n rec v + 1))
def ed : List Nat → List Nat → Nat
  | [], v => v.length
  | a :: u, v => edA a u.length (ed u) v
theorem ed_n (u : List Nat) : ed u [] = u.length := by cases u <;> rfl
theorem ed_c (a b : Nat) (u v : List Nat) : ed (a :: u) (b :: v) = min (ed u v + (if a = b then 0 else 1)) (min (ed u (b :: v) + 1) (ed (a :: u) v + 1)) := rfl
theorem ed_bd : ∀ (n : Nat) (u v : List Nat), u.length + v.length ≤ n → (∀ a, ed u v ≤ ed (a :: u) v + 1 ∧ ed (a :: u) v ≤ ed u v + 1) ∧ ∀ b, ed u v ≤ ed u (b :: v) + 1 ∧ ed u (b :: v) ≤ ed u v + 1 := by
  intro n
  induction n with
  | zero =>
    intro u v h
    have hu : u = [] := List.eq_nil_of_length_eq_zero (by omega)
    have hv : v = [] := List.eq_nil_of_length_eq_zero (by omega)
    subst hu; subst hv
    exact ⟨fun a => ⟨by show 0 ≤ _; omega, by show 1 ≤ 0 + 1; omega⟩, fun b => ⟨by show 0 ≤ _; omega, by show 1 ≤ 0 + 1; omega⟩⟩
  | succ n ih =>
    intro u v h
    constructor
    · intro a
      cases v with
      | nil => rw [ed_n, ed_n, List.length_cons]; omega
      | cons b v =>
        have h1 := ih u v (by simp at h; omega)
        have p1 := h1.1 a
        have p2 := h1.2 b
        rw [ed_c]
        split <;> omega
    · intro b
      cases u with
      | nil => show v.length ≤ (v.length + 1) + 1 ∧ v.length + 1 ≤ v.length + 1; omega
      | cons a u =>
        have h1 := ih u v (by simp at h; omega)
        have p1 := h1.1 a
        have p2 := h1.2 b
        rw [ed_c]
        split <;> omega
theorem ed_le : ∀ (u v : List Nat), ed u v ≤ u.length + v.length
  | [], v => by show v.length ≤ _; omega
  | a :: u, [] => by rw [ed_n]; omega
  | a :: u, b :: v => by
    have h := ed_le u v
    rw [ed_c]
    simp only [List.length_cons]
    split <;> omega
def edX (t u : List Nat) (i j : Nat) : Nat := ed (t.drop i) (u.drop j)
theorem edX_le (t u : List Nat) (i j : Nat) : edX t u i j ≤ t.length + u.length := Nat.le_trans (ed_le _ _) (by rw [List.length_drop, List.length_drop]; omega)
theorem edX_in {t u : List Nat} {i j : Nat} (hi : i < t.length) (hj : j < u.length) : edX t u i j = min (edX t u (i + 1) (j + 1) + (if t.getD i 0 = u.getD j 0 then 0 else 1)) (min (edX t u (i + 1) j + 1) (edX t u i (j + 1) + 1)) := by
  unfold edX
  rw [drop_cons hi, drop_cons hj, ed_c, ← drop_cons hi, ← drop_cons hj]
theorem edX_n {t u : List Nat} {i j : Nat} (hi : i < t.length) (hj : j < u.length) : edX t u (i + 1) (j + 1) ≤ edX t u (i + 1) j + 1 ∧ edX t u (i + 1) (j + 1) ≤ edX t u i (j + 1) + 1 := by
  have h := ed_bd _ (t.drop (i + 1)) (u.drop (j + 1)) (Nat.le_refl _)
  have h1 := (h.1 (t.getD i 0)).1
  have h2 := (h.2 (u.getD j 0)).1
  rw [← drop_cons hi] at h1
  rw [← drop_cons hj] at h2
  exact ⟨h2, h1⟩
theorem edX_o {t u : List Nat} {i j : Nat} (hi : i ≤ t.length) (hj : j ≤ u.length) (h : ¬ (i < t.length ∧ j < u.length)) : edX t u i j = t.length - i + (u.length - j) := by
  unfold edX
  by_cases e : i < t.length
  · rw [List.drop_eq_nil_of_le (show u.length ≤ j by omega), ed_n, List.length_drop]; omega
  · rw [List.drop_eq_nil_of_le (show t.length ≤ i by omega)]
    show (u.drop j).length = _
    rw [List.length_drop]; omega
theorem nI_o {a b c d : Nat} (h1 : b ≤ a) (h2 : d ≤ c) : nI a - nI b + nI c - nI d = nI (a - b + (c - d)) := by
  rw [pk_sub h1, nI_add, pk_sub (show d ≤ a - b + c by omega)]
  congr 1
  omega
theorem edO_tb (t u : List Nat) : ∀ (k : Nat) (f : Nat → Int32), edO t u k f = tbO (fun f i j => edV f t u i j) (fun i j => i * 25 + j) (u.length + 1) k f := by
  have hI : ∀ (i k : Nat) (f : Nat → Int32), edI t u i k f = tbI (fun f i j => edV f t u i j) (fun i j => i * 25 + j) i k f := by
    intro i k
    induction k with
    | zero => intro f; rfl
    | succ k ih => intro f; rw [edI, tbI, ih]
  intro k
  induction k with
  | zero => intro f; rfl
  | succ k ih => intro f; rw [edO, tbO, ih, hI]
theorem meO_tb (t u : List Nat) : ∀ (k : Nat) (f : Nat → Int32), meO t u k f = tbO (fun f i j => meV f t u i j) (fun i j => 30 * i + j) (u.length + 1) k f := by
  have hI : ∀ (i k : Nat) (f : Nat → Int32), meI t u i k f = tbI (fun f i j => meV f t u i j) (fun i j => 30 * i + j) i k f := by
    intro i k
    induction k with
    | zero => intro f; rfl
    | succ k ih => intro f; rw [meI, tbI, ih]
  intro k
  induction k with
  | zero => intro f; rfl
  | succ k ih => intro f; rw [meO, tbO, ih, hI]
theorem nI_min {a b : Nat} (ha : a < 2 ^ 31) (hb : b < 2 ^ 31) : (if nI a < nI b then nI a else nI b) = nI (min a b) := by
  by_cases h : a < b
  · rw [if_pos (nI_lt h hb), Nat.min_eq_left (by omega)]
  · rw [if_neg (nI_nlt (by omega) ha), Nat.min_eq_right (by omega)]
theorem nI_min2 {a b : Nat} (ha : a < 2 ^ 31) (hb : b < 2 ^ 31) : (if nI a ≤ nI b then nI a else nI b) = nI (min a b) := by
  by_cases h : a ≤ b
  · rw [if_pos (nI_le h hb), Nat.min_eq_left h]
  · rw [if_neg (nI_ge (by omega) ha), Nat.min_eq_right (by omega)]
theorem edO_v {t u : List Nat} (ht : t.length ≤ 24) (hu : u.length ≤ 24) (f : Nat → Int32) : edO t u (t.length + 1) f 0 = nI (ed t u) := by
  rw [edO_tb]
  refine tab (ix25 _ _ (by omega)) (fun i j => nI (edX t u i j)) (fun f i j hi hj h => ?_) f 0 0 (by omega) (by omega)
  show edV f t u i j = nI (edX t u i j)
  unfold edV
  by_cases hc : i < t.length ∧ j < u.length
  · have h1 : f ((i + 1) * 25 + (j + 1)) = nI (edX t u (i + 1) (j + 1)) := h (i + 1) (j + 1) (by omega) (by omega) (by omega)
    have h2 : f ((i + 1) * 25 + j) = nI (edX t u (i + 1) j) := h (i + 1) j (by omega) (by omega) (by omega)
    have h3 : f (i * 25 + (j + 1)) = nI (edX t u i (j + 1)) := h i (j + 1) (by omega) (by omega) (by omega)
    have l1 := edX_le t u (i + 1) (j + 1)
    have l2 := edX_le t u (i + 1) j
    have l3 := edX_le t u i (j + 1)
    have n := edX_n hc.1 hc.2
    rw [if_pos hc, edX_in hc.1 hc.2, h1, h2, h3]
    by_cases e : t.getD i 0 = u.getD j 0
    · rw [if_pos e, if_pos e]
      congr 1
      omega
    · rw [if_neg e, if_neg e]
      simp only
      rw [nI_min (by omega) (by omega), nI_min (by omega) (by omega), show (1 : Int32) = nI 1 from rfl, nI_add]
      congr 1
      omega
  · rw [if_neg hc, edX_o (by omega) (by omega) hc, nI_o (by omega) (by omega)]
theorem meO_v {t u : List Nat} (ht : t.length ≤ 24) (hu : u.length ≤ 24) (f : Nat → Int32) : meO t u (t.length + 1) f 0 = nI (ed t u) := by
  rw [meO_tb]
  refine tab (ix30 _ _ (by omega)) (fun i j => nI (edX t u i j)) (fun f i j hi hj h => ?_) f 0 0 (by omega) (by omega)
  show meV f t u i j = nI (edX t u i j)
  unfold meV
  by_cases hc : i < t.length ∧ j < u.length
  · have h1 : f (30 * i + 30 + j + 1) = nI (edX t u (i + 1) (j + 1)) := h (i + 1) (j + 1) (by omega) (by omega) (by omega)
    have h2 : f (30 * i + 30 + j) = nI (edX t u (i + 1) j) := h (i + 1) j (by omega) (by omega) (by omega)
    have h3 : f (30 * i + j + 1) = nI (edX t u i (j + 1)) := h i (j + 1) (by omega) (by omega) (by omega)
    have l1 := edX_le t u (i + 1) (j + 1)
    have l2 := edX_le t u (i + 1) j
    have l3 := edX_le t u i (j + 1)
    rw [if_pos hc, edX_in hc.1 hc.2, h1, h2, h3]
    simp only
    rw [show (nI (edX t u (i + 1) (j + 1)) + if t.getD i 0 = u.getD j 0 then 0 else 1) = nI (edX t u (i + 1) (j + 1) + if t.getD i 0 = u.getD j 0 then 0 else 1) from by split <;> exact nI_add _ _, nI_1, nI_1]
    have b : (if t.getD i 0 = u.getD j 0 then 0 else 1) ≤ 1 := by split <;> omega
    rw [nI_min2 (by omega) (by omega), nI_min2 (by omega) (by omega)]
    congr 1
    omega
  · rw [if_neg hc, edX_o (by omega) (by omega) hc, nI_o (by omega) (by omega)]
/-! how many common parts: the tables side by side -/
theorem hmO_tb (f : Nat → Int32) (q : Nat) (t u : List Nat) : ∀ (k : Nat) (g : Nat → Int64), hmO f q t u k g = tbO (fun g i j => hmV f g q t u i j) (fun i j => i * 25 + j) (u.length + 1) k g := by
  have hI : ∀ (i k : Nat) (g : Nat → Int64), hmI f q t u i k g = tbI (fun g i j => hmV f g q t u i j) (fun i j => i * 25 + j) i k g := by
    intro i k
    induction k with
    | zero => intro f; rfl
    | succ k ih => intro f; rw [hmI, tbI, ih]
  intro k
  induction k with
  | zero => intro f; rfl
  | succ k ih => intro f; rw [hmO, tbO, ih, hI]
theorem hm_cm {t u : List Nat} (ht : t.length ≤ 24) (hu : u.length ≤ 24) (f : Nat → Int32) (q : Nat) (g g2 : Nat → Int64) : hmO (lgO t u (t.length + 1) f) q t u (t.length + 1) g 0 = tbO (fun g i j => cmS g t u i j q) (fun i j => 30 * i + j) (u.length + 1) (t.length + 1) g2 0 := by
  rw [hmO_tb]
  refine tab2 (ix25 _ _ (by omega)) (ix30 _ _ (by omega)) (fun F F2 i j hi hj h => ?_) g g2 0 0 (by omega) (by omega)
  show hmV (lgO t u (t.length + 1) f) F q t u i j = cmS F2 t u i j q
  have V := lgO_v ht hu f (show i ≤ t.length by omega) (show j ≤ u.length by omega)
  have l9 := lcX_le t u i j
  unfold hmV
  rw [V]
  by_cases h0 : lcX t u i j = 0
  · rw [h0, if_pos (by rfl)]
    have key : ∀ l, cmS F2 t u i j l = 1 := by
      intro l
      induction l with
      | zero => rw [cmS, if_pos h0]
      | succ l ih => rw [cmS, ih, if_neg (fun e => by have := e.1; omega)]; rfl
    rw [key]
  · rw [if_neg (nI_ne0 (Nat.pos_of_ne_zero h0) (by omega))]
    have key : ∀ l, hmS (lgO t u (t.length + 1) f) F t u i j (nI (lcX t u i j)) l = cmS F2 t u i j l := by
      intro l
      induction l with
      | zero => rw [cmS, if_neg h0]; rfl
      | succ l ih =>
        have e9 : gsW (lgO t u (t.length + 1) f) t u (nxW t l i) (nxW u l j) (nI (lcX t u i j)) ↔ cmC t u i j l := by
          obtain ⟨n, hn⟩ : ∃ n, lcX t u i j = n + 1 := ⟨lcX t u i j - 1, by omega⟩
          rw [hn, gs_gN ht hu f _ _ (by omega)]
          unfold gN cmC
          rw [hn]
          exact ⟨fun ⟨a, b, c⟩ => ⟨by omega, a, b, by omega⟩, fun ⟨_, a, b, c⟩ => ⟨a, b, by omega⟩⟩
        rw [hmS, cmS, ih]
        by_cases hc : cmC t u i j l
        · rw [if_pos hc, if_pos (e9.mpr hc)]
          have n1 := (nxW_le t l i).1
          have n2 := (nxW_le u l j).1
          have h5 : F ((nxW t l i + 1) * 25 + (nxW u l j + 1)) = F2 (30 * (nxW t l i + 1) + (nxW u l j + 1)) := h (nxW t l i + 1) (nxW u l j + 1) (by have := hc.2.1; omega) (by have := hc.2.2.1; omega) (by omega)
          rw [h5]
        · rw [if_neg hc, if_neg (fun e => hc (e9.mp e))]
          exact (Int64.add_zero _).symm
    exact key q
/-! parts by losing -/
def dsN (q : Nat) (t : List Nat) : Nat → Nat → Nat
  | 0, _ => 1
  | k + 1, i => sumN (fun l => if nxW t l i < t.length then dsN q t k (nxW t l i + 1) else 0) q
theorem dsN_s (q : Nat) (t : List Nat) (k i : Nat) : dsN q t (k + 1) i = sumN (fun l => if nxW t l i < t.length then dsN q t k (nxW t l i + 1) else 0) q := rfl
theorem dsN_0 {q : Nat} {t : List Nat} : ∀ (k i : Nat), t.length - i < k → dsN q t k i = 0
  | 0, i, h => by omega
  | k + 1, i, h => by
    rw [dsN_s]
    have h0 : ∀ c, sumN (fun l => if nxW t l i < t.length then dsN q t k (nxW t l i + 1) else 0) c = 0 := by
      intro c
      induction c with
      | zero => rfl
      | succ c ih =>
        rw [sumN, ih]
        have := (nxW_le t c i).1
        by_cases e : nxW t c i < t.length
        · rw [if_pos e, dsN_0 k _ (by omega)]
        · rw [if_neg e]
    exact h0 q
theorem ptO_tc (q n : Nat) (u : List Nat) : ∀ (k : Nat) (g : Nat → Int64), ptO q n u k g = tcO (fun g i j => ptV g q u i j) (fun i j => 30 * i + j) (n + 1) k g := by
  have hI : ∀ (i c k : Nat) (g : Nat → Int64), ptI q u i c k g = tcI (fun g i j => ptV g q u i j) (fun i j => 30 * i + j) i c k g := by
    intro i c
    induction c with
    | zero => intro k g; rfl
    | succ c ih => intro k g; rw [ptI, tcI, ih]
  intro k
  induction k with
  | zero => intro g; rfl
  | succ k ih => intro g; rw [ptO, tcO, ih, hI]
theorem lfO_tc (q n : Nat) (t : List Nat) : ∀ (k : Nat) (g : Nat → Int64), lfO q n t k g = tcO (fun g i j => lfV g q t i j) (fun i j => i * 7 + j) (n + 1) k g := by
  have hI : ∀ (i c k : Nat) (g : Nat → Int64), lfI q t i c k g = tcI (fun g i j => lfV g q t i j) (fun i j => i * 7 + j) i c k g := by
    intro i c
    induction c with
    | zero => intro k g; rfl
    | succ c ih => intro k g; rw [lfI, tcI, ih]
  intro k
  induction k with
  | zero => intro g; rfl
  | succ k ih => intro g; rw [lfO, tcO, ih, hI]
theorem pt_v {q n : Nat} {t : List Nat} (hn : n ≤ 24) (g : Nat → Int64) : ptO q n t (t.length + 1) g n = lN (dsN q t n 0) := by
  rw [ptO_tc]
  have T := tac (V := fun g i j => ptV g q t i j) (ix30 (t.length + 1) (n + 1) (by omega)) (fun i k => lN (dsN q t k i)) (fun F i k hi hk h => ?_) (t.length + 1) g (Nat.le_refl _) (fun i' j' h1 _ h2 => by omega) 0 n (by omega) (by omega)
  · rw [Nat.mul_zero, Nat.zero_add] at T
    exact T
  · show ptV F q t i k = lN (dsN q t k i)
    unfold ptV
    cases k with
    | zero => rw [if_neg (by omega)]; rfl
    | succ k =>
      rw [if_pos (by omega), dsN_s]
      have key : ∀ l, pvS F t i (k + 1) l = lN (sumN (fun l => if nxW t l i < t.length then dsN q t k (nxW t l i + 1) else 0) l) := by
        intro l
        induction l with
        | zero => rfl
        | succ l ih =>
          rw [pvS, sumN, ih, ← lN_add]
          congr 1
          by_cases e : nxW t l i < t.length
          · rw [if_pos e, if_pos e]
            have := (nxW_le t l i).1
            have h5 : F (30 * (nxW t l i + 1) + k) = lN (dsN q t k (nxW t l i + 1)) := h (nxW t l i + 1) k (by omega) (by omega) (by omega)
            rw [← h5]
            congr 1
          · rw [if_neg e, if_neg e]; rfl
      exact key q
theorem lf_v {q n : Nat} {t : List Nat} (hn : n ≤ 6) (g : Nat → Int64) : lfO q n t (t.length + 1) g n = if t.length < n then 0 else lN (dsN q t (t.length - n) 0) := by
  rw [lfO_tc]
  have T := tac (V := fun g i j => lfV g q t i j) (ix7 (t.length + 1) (n + 1) (by omega)) (fun i lost => if t.length - i < lost then 0 else lN (dsN q t (t.length - i - lost) i)) (fun F i lost hi hk h => ?_) (t.length + 1) g (Nat.le_refl _) (fun i' j' h1 _ h2 => by omega) 0 n (by omega) (by omega)
  · rw [Nat.zero_mul, Nat.zero_add] at T
    exact T
  · show lfV F q t i lost = if t.length - i < lost then 0 else lN (dsN q t (t.length - i - lost) i)
    unfold lfV
    by_cases h1 : t.length - i ≤ lost
    · rw [if_pos h1]
      by_cases h2 : t.length - i = lost
      · rw [if_pos h2, if_neg (by omega), show t.length - i - lost = 0 by omega]; rfl
      · rw [if_neg h2, if_pos (by omega)]
    · rw [if_neg h1, if_neg (by omega), show t.length - i - lost = (t.length - i - lost - 1) + 1 by omega, dsN_s]
      have key : ∀ l, lfS F t i lost l = lN (sumN (fun l => if nxW t l i < t.length then dsN q t (t.length - i - lost - 1) (nxW t l i + 1) else 0) l) := by
        intro l
        induction l with
        | zero => rfl
        | succ l ih =>
          have n1 := (nxW_le t l i).1
          rw [lfS, sumN, ih]
          by_cases e : nxW t l i < t.length
          · rw [if_pos e]
            by_cases e2 : nxW t l i - i ≤ lost
            · rw [if_pos ⟨e, e2⟩]
              have h5 : F ((nxW t l i + 1) * 7 + (lost - (nxW t l i - i))) = if t.length - (nxW t l i + 1) < lost - (nxW t l i - i) then 0 else lN (dsN q t (t.length - (nxW t l i + 1) - (lost - (nxW t l i - i))) (nxW t l i + 1)) := h (nxW t l i + 1) (lost - (nxW t l i - i)) (by omega) (by omega) (by omega)
              rw [show (nxW t l i + 1) * 7 + lost - (nxW t l i - i) = (nxW t l i + 1) * 7 + (lost - (nxW t l i - i)) by omega, h5, if_neg (by omega), lN_add]
              congr 3
              omega
            · rw [if_neg (fun e3 => e2 e3.2), dsN_0 _ _ (by omega)]
              rfl
          · rw [if_neg (fun e3 => e e3.1), if_neg e]
            rfl
      exact key q
/-! gaining -/
theorem gaP_s (len : Int32) : ∀ (c i : Nat) (v : Int64), gaP len (c + 1) i v = gaP len c i v * (len - nI (i + c)).toInt64 / (nI (i + c) + 1).toInt64
  | 0, i, v => rfl
  | c + 1, i, v => by
    rw [gaP, gaP_s len c (i + 1), show i + 1 + c = i + (c + 1) by omega]
    rfl
theorem gaQ_m (q1 : Int32) : ∀ (c : Nat) (v : Int64), gaQ q1 c v = v * gaQ q1 c 1
  | 0, v => (Int64.mul_one v).symm
  | c + 1, v => by
    rw [gaQ, gaQ, gaQ_m q1 c (v * q1.toInt64), gaQ_m q1 c (1 * q1.toInt64), Int64.one_mul, Int64.mul_assoc]
theorem gaQ_s (q1 : Int32) (c : Nat) : gaQ q1 (c + 1) 1 = gaQ q1 c 1 * q1.toInt64 := by
  rw [gaQ, gaQ_m q1 c, Int64.one_mul, Int64.mul_comm]
theorem bg_ga (len q1 : Int32) : ∀ (c k : Nat) (A : Int64), bgL len q1 c k (gaP len k 0 1) (gaQ q1 k 1) A = gaS len q1 c k A
  | 0, k, A => rfl
  | c + 1, k, A => by
    rw [bgL, gaS, ← bg_ga len q1 c (k + 1), gaP_s, gaQ_s, gaQ_m q1 k (gaP len k 0 1), Nat.zero_add]
theorem bg_v (len q1 : Int32) (c : Nat) : bgL len q1 c 0 1 1 0 = gaS len q1 c 0 0 := bg_ga len q1 c 0 0
