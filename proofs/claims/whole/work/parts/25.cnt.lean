/-! the code counted: both tables -/
def sumN (g : Nat → Nat) : Nat → Nat
  | 0 => 0
  | l + 1 => sumN g l + g l
theorem sumN_le {g : Nat → Nat} {B : Nat} : ∀ k, (∀ l, l < k → g l ≤ B) → sumN g k ≤ k * B
  | 0, _ => by rw [Nat.zero_mul]; exact Nat.le_refl _
  | k + 1, h => by
    have h1 := sumN_le k (fun l hl => h l (by omega))
    have h2 := h k (by omega)
    rw [sumN, Nat.add_mul, Nat.one_mul]
    omega
def wy (q m a b lm : Nat) : Nat → Nat → Nat → Nat → Nat → Nat
  | 0, _, _, s, c => if s = a ∧ c = b then 1 else 0
  | r + 1, p, last, s, c => sumN (fun l => wy q m a b lm r (p + 1) l (swN q m s (p + 1) last l) ((c + l) % lm)) q
theorem wy_s (q m a b lm r p last s c : Nat) : wy q m a b lm (r + 1) p last s c = sumN (fun l => wy q m a b lm r (p + 1) l (swN q m s (p + 1) last l) ((c + l) % lm)) q := rfl
theorem wy_q {q m a b lm : Nat} : ∀ (r p last s c : Nat), wy q m a b lm r p last s c ≤ q ^ r
  | 0, p, last, s, c => by rw [wy]; split <;> simp
  | r + 1, p, last, s, c => by
    rw [wy_s, Nat.pow_succ, Nat.mul_comm]
    exact sumN_le q (fun l _ => wy_q r _ _ _ _)
theorem wy_4 {m a b : Nat} : ∀ (r p last s c : Nat), wy 4 m a b 4 (r + 1) p last s c ≤ 4 ^ r
  | 0, p, last, s, c => by
    have g : ∀ l, wy 4 m a b 4 0 (p + 1) l (swN 4 m s (p + 1) last l) ((c + l) % 4) ≤ if (c + l) % 4 = b then 1 else 0 := fun l => by
      rw [wy]
      split
      · rename_i h; rw [if_pos h.2]; exact Nat.le_refl _
      · exact Nat.zero_le _
    have g0 := g 0
    have g1 := g 1
    have g2 := g 2
    have g3 := g 3
    show 0 + wy 4 m a b 4 0 (p + 1) 0 (swN 4 m s (p + 1) last 0) ((c + 0) % 4) + wy 4 m a b 4 0 (p + 1) 1 (swN 4 m s (p + 1) last 1) ((c + 1) % 4) + wy 4 m a b 4 0 (p + 1) 2 (swN 4 m s (p + 1) last 2) ((c + 2) % 4) + wy 4 m a b 4 0 (p + 1) 3 (swN 4 m s (p + 1) last 3) ((c + 3) % 4) ≤ 1
    split at g0 <;> split at g1 <;> split at g2 <;> split at g3 <;> omega
  | r + 1, p, last, s, c => by
    rw [wy_s, Nat.pow_succ, Nat.mul_comm]
    exact sumN_le 4 (fun l _ => wy_4 r _ _ _ _)
theorem wy_le {q m a b lm : Nat} (hq : 2 ≤ q ∧ q ≤ 4) (hlm : q = 4 → lm = 4) {r : Nat} (hr : r ≤ 16) (p last s c : Nat) : wy q m a b lm r p last s c ≤ 2 ^ 30 := by
  have p3 : ∀ x, x ≤ 3 → x ^ r ≤ 2 ^ 30 := fun x hx => Nat.le_trans (Nat.pow_le_pow_left hx r) (Nat.le_trans (Nat.pow_le_pow_right (by decide) hr) (by decide))
  by_cases e : q = 4
  · rw [hlm e]
    subst e
    cases r with
    | zero => exact Nat.le_trans (wy_q 0 p last s c) (by decide)
    | succ r => exact Nat.le_trans (wy_4 r p last s c) (Nat.le_trans (Nat.pow_le_pow_right (by decide) (show r ≤ 15 by omega)) (by decide))
  · exact Nat.le_trans (wy_q r p last s c) (p3 q (by omega))
theorem dm {a k r : Nat} (h : r < k) : (a * k + r) / k = a ∧ (a * k + r) % k = r := by
  constructor
  · rw [Nat.mul_comm, Nat.mul_add_div (by omega), Nat.div_eq_of_lt h, Nat.add_zero]
  · rw [Nat.mul_comm, Nat.mul_add_mod, Nat.mod_eq_of_lt h]
theorem dm_inj {a a' k r r' : Nat} (h : r < k) (h' : r' < k) (e : a * k + r = a' * k + r') : a = a' ∧ r = r' := by
  have h1 := dm (a := a) h
  have h2 := dm (a := a') h'
  rw [e] at h1
  exact ⟨h1.1.symm.trans h2.1, h1.2.symm.trans h2.2⟩
theorem ceN_inj {q m lm p last s c p' last' s' c' : Nat} (h1 : 1 ≤ p) (h1' : 1 ≤ p') (h2 : last < q) (h2' : last' < q) (h3 : s < m) (h3' : s' < m) (h4 : c < lm) (h4' : c' < lm) (e : ceN q m lm p last s c = ceN q m lm p' last' s' c') : p = p' ∧ last = last' ∧ s = s' ∧ c = c' := by
  unfold ceN at e
  obtain ⟨e1, e2⟩ := dm_inj h4 h4' e
  obtain ⟨e3, e4⟩ := dm_inj h3 h3' e1
  obtain ⟨e5, e6⟩ := dm_inj h2 h2' e3
  exact ⟨by omega, e6, e4, e2⟩
/-- a cell of the class's table is right -/
def Rt (q n m a b lm : Nat) (f : Nat → Int32) (p last s c : Nat) : Prop := f (ceN q m lm p last s c) = nI (wy q m a b lm (n - p) p last s c)
def vC (q n m lm p last s c : Nat) : Prop := (1 ≤ p ∧ p < n) ∧ last < q ∧ s < m ∧ c < lm
theorem Rt_up {q n m a b lm : Nat} {f : Nat → Int32} {p last s c p' last' s' c' : Nat} (hv : vC q n m lm p last s c) (hv' : vC q n m lm p' last' s' c') {x : Int32} (hx : x = nI (wy q m a b lm (n - p) p last s c)) (h : Rt q n m a b lm f p' last' s' c' ∨ (p = p' ∧ last = last' ∧ s = s' ∧ c = c')) : Rt q n m a b lm (va_up f (ceN q m lm p last s c) x) p' last' s' c' := by
  unfold Rt
  by_cases e : ceN q m lm p' last' s' c' = ceN q m lm p last s c
  · obtain ⟨e1, e2, e3, e4⟩ := ceN_inj hv'.1.1 hv.1.1 hv'.2.1 hv.2.1 hv'.2.2.1 hv.2.2.1 hv'.2.2.2 hv.2.2.2 e
    rw [e, up_eq, hx, e1, e2, e3, e4]
  · rw [up_ne _ _ e]
    rcases h with h | ⟨e1, e2, e3, e4⟩
    · exact h
    · exact absurd (by rw [e1, e2, e3, e4]) e
/-- the cells behind p letters are right -/
def RO (q n m a b lm : Nat) (f : Nat → Int32) (p : Nat) : Prop := p < n → ∀ last s c, last < q → s < m → c < lm → Rt q n m a b lm f p last s c
theorem we_ok {q n m a b lm : Nat} {f : Nat → Int32} {p : Nat} (hp : p ≤ n) (h : RO q n m a b lm f p) {last s c : Nat} (h2 : last < q) (h3 : s < m) (h4 : c < lm) : weV f q n m a b lm p last s c = nI (wy q m a b lm (n - p) p last s c) := by
  unfold weV
  by_cases e : p < n
  · rw [if_pos e]
    exact h e last s c h2 h3 h4
  · rw [if_neg e, show n - p = 0 by omega, wy]
    split <;> rfl
theorem wb_ok {q n m a b lm : Nat} {f : Nat → Int32} {p : Nat} (hm : 0 < m) (hlm : 0 < lm) (hp : p < n) (h : RO q n m a b lm f (p + 1)) {last s c : Nat} (h3 : s < m) : wbS f q n m a b lm p last s c q = nI (wy q m a b lm (n - p) p last s c) := by
  rw [show n - p = (n - (p + 1)) + 1 by omega, wy_s]
  have key : ∀ k, k ≤ q → wbS f q n m a b lm p last s c k = nI (sumN (fun l => wy q m a b lm (n - (p + 1)) (p + 1) l (swN q m s (p + 1) last l) ((c + l) % lm)) k) := by
    intro k
    induction k with
    | zero => intro _; rfl
    | succ k ih =>
      intro hk
      rw [wbS, sumN, ih (by omega), we_ok (by omega) h (by omega) (swN_lt hm h3) (Nat.mod_lt _ hlm), nI_add]
  exact key q (Nat.le_refl _)
theorem cb_ok {q n m a b lm : Nat} (hm : 0 < m) (hlm : 0 < lm) {p : Nat} (hp1 : 1 ≤ p) (hp : p < n) {last : Nat} (hla : last < q) {s : Nat} (hs : s < m) : ∀ (k c : Nat) (f : Nat → Int32), c + k ≤ lm → RO q n m a b lm f (p + 1) → (∀ p' l' s' c', vC q n m lm p' l' s' c' → Rt q n m a b lm f p' l' s' c' ∨ (p' = p ∧ l' = last ∧ s' = s ∧ c ≤ c' ∧ c' < c + k) → Rt q n m a b lm (cbC q n m a b lm p last s k c f) p' l' s' c')
  | 0, c, f, _, hR => fun p' l' s' c' hv h => h.elim id (fun h => by omega)
  | k + 1, c, f, hk, hR => by
    intro p' l' s' c' hv h
    rw [cbC]
    have vx : vC q n m lm p last s c := ⟨⟨hp1, hp⟩, hla, hs, by omega⟩
    have hx := wb_ok hm hlm hp hR (last := last) (s := s) (c := c) hs
    refine cb_ok hm hlm hp1 hp hla hs k (c + 1) _ (by omega) (fun hlt l2 s2 c2 a1 a2 a3 => Rt_up vx ⟨⟨by omega, hlt⟩, a1, a2, a3⟩ hx (Or.inl (hR hlt l2 s2 c2 a1 a2 a3))) p' l' s' c' hv ?_
    rcases h with h | ⟨e1, e2, e3, e4, e5⟩
    · exact Or.inl (Rt_up vx hv hx (Or.inl h))
    · by_cases e : c' = c
      · exact Or.inl (Rt_up vx hv hx (Or.inr ⟨e1.symm, e2.symm, e3.symm, e.symm⟩))
      · exact Or.inr ⟨e1, e2, e3, by omega, by omega⟩
theorem cbS_ok {q n m a b lm : Nat} (hm : 0 < m) (hlm : 0 < lm) {p : Nat} (hp1 : 1 ≤ p) (hp : p < n) {last : Nat} (hla : last < q) : ∀ (k s : Nat) (f : Nat → Int32), s + k ≤ m → RO q n m a b lm f (p + 1) → (∀ p' l' s' c', vC q n m lm p' l' s' c' → Rt q n m a b lm f p' l' s' c' ∨ (p' = p ∧ l' = last ∧ s ≤ s' ∧ s' < s + k) → Rt q n m a b lm (cbS q n m a b lm p last k s f) p' l' s' c')
  | 0, s, f, _, hR => fun p' l' s' c' hv h => h.elim id (fun h => by omega)
  | k + 1, s, f, hk, hR => by
    intro p' l' s' c' hv h
    rw [cbS]
    have C := cb_ok hm hlm hp1 hp hla (show s < m by omega) lm 0 f (by omega) hR
    refine cbS_ok hm hlm hp1 hp hla k (s + 1) _ (by omega) (fun hlt l2 s2 c2 a1 a2 a3 => C _ _ _ _ ⟨⟨by omega, hlt⟩, a1, a2, a3⟩ (Or.inl (hR hlt l2 s2 c2 a1 a2 a3))) p' l' s' c' hv ?_
    rcases h with h | ⟨e1, e2, e3, e4⟩
    · exact Or.inl (C _ _ _ _ hv (Or.inl h))
    · by_cases e : s' = s
      · exact Or.inl (C _ _ _ _ hv (Or.inr ⟨e1, e2, e, by omega, by have := hv.2.2.2; omega⟩))
      · exact Or.inr ⟨e1, e2, by omega, by omega⟩
theorem cwL_ok {q n m a b lm : Nat} (hm : 0 < m) (hlm : 0 < lm) {p : Nat} (hp1 : 1 ≤ p) (hp : p < n) : ∀ (k last : Nat) (f : Nat → Int32), last + k ≤ q → RO q n m a b lm f (p + 1) → (∀ p' l' s' c', vC q n m lm p' l' s' c' → Rt q n m a b lm f p' l' s' c' ∨ (p' = p ∧ last ≤ l' ∧ l' < last + k) → Rt q n m a b lm (cwL q n m a b lm p k last f) p' l' s' c')
  | 0, last, f, _, hR => fun p' l' s' c' hv h => h.elim id (fun h => by omega)
  | k + 1, last, f, hk, hR => by
    intro p' l' s' c' hv h
    rw [cwL]
    have C := cbS_ok hm hlm hp1 hp (show last < q by omega) m 0 f (by omega) hR
    refine cwL_ok hm hlm hp1 hp k (last + 1) _ (by omega) (fun hlt l2 s2 c2 a1 a2 a3 => C _ _ _ _ ⟨⟨by omega, hlt⟩, a1, a2, a3⟩ (Or.inl (hR hlt l2 s2 c2 a1 a2 a3))) p' l' s' c' hv ?_
    rcases h with h | ⟨e1, e2, e3⟩
    · exact Or.inl (C _ _ _ _ hv (Or.inl h))
    · by_cases e : l' = last
      · exact Or.inl (C _ _ _ _ hv (Or.inr ⟨e1, e, by omega, by have := hv.2.2.1; omega⟩))
      · exact Or.inr ⟨e1, by omega, by omega⟩
theorem cwP_ok {q n m a b lm : Nat} (hm : 0 < m) (hlm : 0 < lm) : ∀ (p : Nat) (f : Nat → Int32), p < n → RO q n m a b lm f (p + 1) → (∀ p' l' s' c', vC q n m lm p' l' s' c' → Rt q n m a b lm f p' l' s' c' ∨ p' ≤ p → Rt q n m a b lm (cwP q n m a b lm p f) p' l' s' c')
  | 0, f, _, hR => fun p' l' s' c' hv h => h.elim id (fun h => by have := hv.1.1; omega)
  | p + 1, f, hp, hR => by
    intro p' l' s' c' hv h
    rw [cwP]
    have C := cwL_ok hm hlm (show 1 ≤ p + 1 by omega) hp q 0 f (by omega) hR
    refine cwP_ok hm hlm p _ (by omega) (fun hlt l2 s2 c2 a1 a2 a3 => C _ _ _ _ ⟨⟨by omega, hlt⟩, a1, a2, a3⟩ (Or.inr ⟨rfl, by omega, by omega⟩)) p' l' s' c' hv ?_
    rcases h with h | h
    · exact Or.inl (C _ _ _ _ hv (Or.inl h))
    · by_cases e : p' = p + 1
      · exact Or.inl (C _ _ _ _ hv (Or.inr ⟨e, by omega, by have := hv.2.1; omega⟩))
      · exact Or.inr (by omega)
/-- the class's table is right -/
theorem cw_right {q n m a b lm : Nat} (hP : cP q n m a b lm) (f : Nat → Int32) : (∀ p, 1 ≤ p → RO q n m a b lm (cwP q n m a b lm (n - 1) f) p) ∧ wbS (cwP q n m a b lm (n - 1) f) q n m a b lm 0 0 0 0 q = nI (wy q m a b lm n 0 0 0 0) := by
  obtain ⟨hq, hn, hm, ha, hb, hlm⟩ := hP
  have C := cwP_ok (q := q) (n := n) (m := m) (a := a) (b := b) (lm := lm) (by omega) (by omega) (n - 1) f (by omega) (fun h => by omega)
  have R : ∀ p, 1 ≤ p → RO q n m a b lm (cwP q n m a b lm (n - 1) f) p := fun p hp hlt l s c h1 h2 h3 => C p l s c ⟨⟨hp, hlt⟩, h1, h2, h3⟩ (Or.inr (by omega))
  refine ⟨R, ?_⟩
  have := wb_ok (last := 0) (s := 0) (c := 0) (show 0 < m by omega) (show 0 < lm by omega) (show 0 < n by omega) (R 1 (Nat.le_refl _)) (show 0 < m by omega)
  rw [Nat.sub_zero] at this
  exact this
/-! the model's table -/
def bOK (q : Nat) (bR : Int32) (b lm : Nat) : Prop := (q = 2 ∧ b = 0 ∧ lm = 1) ∨ (q ≠ 2 ∧ bR = nI b ∧ b < q ∧ lm = q)
def Rm (q n m a b lm : Nat) (E : Nat → Int32) (i last s c : Nat) : Prop := E (staN i last s c) = nI (wy q m a b lm (n - i) i last s (c % lm))
def vM (q n m i last s c : Nat) : Prop := i ≤ n ∧ last < q ∧ s < m ∧ c < q
theorem staN_inj {i last s c i' last' s' c' : Nat} (h1 : last < 4) (h1' : last' < 4) (h2 : s < 64) (h2' : s' < 64) (h3 : c < 4) (h3' : c' < 4) (e : staN i last s c = staN i' last' s' c') : i = i' ∧ last = last' ∧ s = s' ∧ c = c' := by
  unfold staN at e
  omega
theorem Rm_up {q n m a b lm : Nat} (hq : q ≤ 4) (hm : m ≤ 64) {E : Nat → Int32} {i last s c i' last' s' c' : Nat} (hv : vM q n m i last s c) (hv' : vM q n m i' last' s' c') {x : Int32} (hx : x = nI (wy q m a b lm (n - i) i last s (c % lm))) (h : Rm q n m a b lm E i' last' s' c' ∨ (i = i' ∧ last = last' ∧ s = s' ∧ c = c')) : Rm q n m a b lm (va_up E (staN i last s c) x) i' last' s' c' := by
  obtain ⟨v1, v2, v3, v4⟩ := hv
  obtain ⟨u1, u2, u3, u4⟩ := hv'
  unfold Rm
  by_cases e : staN i' last' s' c' = staN i last s c
  · obtain ⟨e1, e2, e3, e4⟩ := staN_inj (by omega) (by omega) (by omega) (by omega) (by omega) (by omega) e
    rw [e, up_eq, hx, e1, e2, e3, e4]
  · rw [up_ne _ _ e]
    rcases h with h | ⟨e1, e2, e3, e4⟩
    · exact h
    · exact absurd (by rw [e1, e2, e3, e4]) e
def RQ (q n m a b lm : Nat) (E : Nat → Int32) (i : Nat) : Prop := i ≤ n → ∀ last s c, last < q → s < m → c < q → Rm q n m a b lm E i last s c
theorem sw_st {q m s i last l : Nat} (hs : s < m) : swN q m s (i + 1) last l = (s + stpN q i last l) % m := by
  unfold swN stpN
  by_cases e : q = 2
  · rw [if_pos e, if_pos e]
  · rw [if_neg e, if_neg e]
    by_cases h : 0 < i ∧ last ≤ l
    · rw [if_pos ⟨by omega, h.2⟩, if_pos h]
      rfl
    · rw [if_neg (fun h2 => h ⟨by omega, h2.2⟩), if_neg h, Nat.add_zero, Nat.mod_eq_of_lt hs]
theorem mod_lm {q lm c l : Nat} (h : lm = 1 ∨ lm = q) : (c + l) % q % lm = (c % lm + l) % lm := by
  rcases h with h | h
  · subst h; rw [Nat.mod_one, Nat.mod_one]
  · subst h; rw [Nat.mod_mod, Nat.mod_add_mod]
theorem ct_ok {D : Md} {n q m a b lm : Nat} (h1 : D.1 = q) (h2 : D.2.1 = n) (h3 : D.2.2.1 = m) (h4 : D.2.2.2.1 = a) (hb : bOK q D.2.2.2.2.1 b lm) (hq : 2 ≤ q ∧ q ≤ 4) (hm : 0 < m) {E : Nat → Int32} {i : Nat} (hi : i ≤ n) (hR : RQ q n m a b lm E (i + 1)) {last s c : Nat} (hs : s < m) (hc : c < q) : ctV D E i last s c = nI (wy q m a b lm (n - i) i last s (c % lm)) := by
  have hlm : lm = 1 ∨ lm = q := by rcases hb with ⟨_, _, h⟩ | ⟨_, _, _, h⟩ <;> omega
  unfold ctV
  rw [h2]
  by_cases e : i < n
  · rw [if_pos e, show n - i = (n - (i + 1)) + 1 by omega, wy_s, h1]
    have key : ∀ k, k ≤ q → ctS D E i last s c k = nI (sumN (fun l => wy q m a b lm (n - (i + 1)) (i + 1) l (swN q m s (i + 1) last l) ((c % lm + l) % lm)) k) := by
      intro k
      induction k with
      | zero =>
        intro _
        show ct0 D i s c = nI 0
        unfold ct0
        rw [h2, if_neg (fun h => by omega)]
        rfl
      | succ k ih =>
        intro hk
        rw [ctS, sumN, ih (by omega), h1, h3]
        have := hR (by omega) k ((s + stpN q i last k) % m) ((c + k) % q) (by omega) (Nat.mod_lt _ hm) (Nat.mod_lt _ (by omega))
        unfold Rm at this
        rw [this, nI_add, mod_lm hlm, sw_st hs]
    exact key q (Nat.le_refl _)
  · rw [if_neg e, show n - i = 0 by omega, wy]
    unfold ct0
    rw [h1, h2, h4]
    have e2 : (i = n ∧ s = a ∧ (q = 2 ∨ nI c = D.2.2.2.2.1)) ↔ (s = a ∧ c % lm = b) := by
      rcases hb with ⟨b1, b2, b3⟩ | ⟨b1, b2, b3, b4⟩
      · rw [b3, Nat.mod_one, b2]
        exact ⟨fun h => ⟨h.2.1, rfl⟩, fun h => ⟨by omega, h.1, Or.inl b1⟩⟩
      · rw [b4, Nat.mod_eq_of_lt hc, b2]
        refine ⟨fun h => ⟨h.2.1, ?_⟩, fun h => ⟨by omega, h.1, Or.inr (by rw [h.2])⟩⟩
        rcases h.2.2 with h5 | h5
        · exact absurd h5 b1
        · exact (nI_eq (by omega) (by omega)).mp h5
    by_cases h5 : s = a ∧ c % lm = b
    · rw [if_pos (e2.mpr h5), if_pos h5]; rfl
    · rw [if_neg (fun h => h5 (e2.mp h)), if_neg h5]; rfl
def cTH (D : Md) (n q m a b lm : Nat) : Prop := D.1 = q ∧ D.2.1 = n ∧ D.2.2.1 = m ∧ D.2.2.2.1 = a ∧ bOK q D.2.2.2.2.1 b lm ∧ (2 ≤ q ∧ q ≤ 4) ∧ 0 < m ∧ m ≤ 64
theorem ctA_ok {D : Md} {n q m a b lm : Nat} (H : cTH D n q m a b lm) {i : Nat} (hi : i ≤ n) {last : Nat} (hla : last < q) {s : Nat} (hs : s < m) : ∀ (k c : Nat) (E : Nat → Int32), c + k ≤ q → RQ q n m a b lm E (i + 1) → (∀ i' l' s' c', vM q n m i' l' s' c' → Rm q n m a b lm E i' l' s' c' ∨ (i' = i ∧ l' = last ∧ s' = s ∧ c ≤ c' ∧ c' < c + k) → Rm q n m a b lm (ctA D i last s k c E) i' l' s' c')
  | 0, c, E, _, hR => fun p' l' s' c' hv h => h.elim id (fun h => by omega)
  | k + 1, c, E, hk, hR => by
    intro p' l' s' c' hv h
    obtain ⟨h1, h2, h3, h4, hb, hq, hm, hm2⟩ := id H
    rw [ctA]
    have vx : vM q n m i last s c := ⟨hi, hla, hs, by omega⟩
    have hx := ct_ok h1 h2 h3 h4 hb hq hm hi hR (last := last) (s := s) (c := c) hs (by omega)
    refine ctA_ok H hi hla hs k (c + 1) _ (by omega) (fun hlt l2 s2 c2 a1 a2 a3 => Rm_up hq.2 hm2 vx ⟨hlt, a1, a2, a3⟩ hx (Or.inl (hR hlt l2 s2 c2 a1 a2 a3))) p' l' s' c' hv ?_
    rcases h with h | ⟨e1, e2, e3, e4, e5⟩
    · exact Or.inl (Rm_up hq.2 hm2 vx hv hx (Or.inl h))
    · by_cases e : c' = c
      · exact Or.inl (Rm_up hq.2 hm2 vx hv hx (Or.inr ⟨e1.symm, e2.symm, e3.symm, e.symm⟩))
      · exact Or.inr ⟨e1, e2, e3, by omega, by omega⟩
theorem ctM_ok {D : Md} {n q m a b lm : Nat} (H : cTH D n q m a b lm) {i : Nat} (hi : i ≤ n) {last : Nat} (hla : last < q) : ∀ (k s : Nat) (E : Nat → Int32), s + k ≤ m → RQ q n m a b lm E (i + 1) → (∀ i' l' s' c', vM q n m i' l' s' c' → Rm q n m a b lm E i' l' s' c' ∨ (i' = i ∧ l' = last ∧ s ≤ s' ∧ s' < s + k) → Rm q n m a b lm (ctM D i last k s E) i' l' s' c')
  | 0, s, E, _, hR => fun p' l' s' c' hv h => h.elim id (fun h => by omega)
  | k + 1, s, E, hk, hR => by
    intro p' l' s' c' hv h
    obtain ⟨h1, h2, h3, h4, hb, hq, hm, hm2⟩ := id H
    rw [ctM, h1]
    have C := ctA_ok H hi hla (show s < m by omega) q 0 E (by omega) hR
    refine ctM_ok H hi hla k (s + 1) _ (by omega) (fun hlt l2 s2 c2 a1 a2 a3 => C _ _ _ _ ⟨hlt, a1, a2, a3⟩ (Or.inl (hR hlt l2 s2 c2 a1 a2 a3))) p' l' s' c' hv ?_
    rcases h with h | ⟨e1, e2, e3, e4⟩
    · exact Or.inl (C _ _ _ _ hv (Or.inl h))
    · by_cases e : s' = s
      · exact Or.inl (C _ _ _ _ hv (Or.inr ⟨e1, e2, e, by omega, by have := hv.2.2.2; omega⟩))
      · exact Or.inr ⟨e1, e2, by omega, by omega⟩
theorem ctL_ok {D : Md} {n q m a b lm : Nat} (H : cTH D n q m a b lm) {i : Nat} (hi : i ≤ n) : ∀ (k last : Nat) (E : Nat → Int32), last + k ≤ q → RQ q n m a b lm E (i + 1) → (∀ i' l' s' c', vM q n m i' l' s' c' → Rm q n m a b lm E i' l' s' c' ∨ (i' = i ∧ last ≤ l' ∧ l' < last + k) → Rm q n m a b lm (ctL D i k last E) i' l' s' c')
  | 0, last, E, _, hR => fun p' l' s' c' hv h => h.elim id (fun h => by omega)
  | k + 1, last, E, hk, hR => by
    intro p' l' s' c' hv h
    obtain ⟨h1, h2, h3, h4, hb, hq, hm, hm2⟩ := id H
    rw [ctL, h3]
    have C := ctM_ok H hi (show last < q by omega) m 0 E (by omega) hR
    refine ctL_ok H hi k (last + 1) _ (by omega) (fun hlt l2 s2 c2 a1 a2 a3 => C _ _ _ _ ⟨hlt, a1, a2, a3⟩ (Or.inl (hR hlt l2 s2 c2 a1 a2 a3))) p' l' s' c' hv ?_
    rcases h with h | ⟨e1, e2, e3⟩
    · exact Or.inl (C _ _ _ _ hv (Or.inl h))
    · by_cases e : l' = last
      · exact Or.inl (C _ _ _ _ hv (Or.inr ⟨e1, e, by omega, by have := hv.2.2.1; omega⟩))
      · exact Or.inr ⟨e1, by omega, by omega⟩
theorem ctI_ok {D : Md} {n q m a b lm : Nat} (H : cTH D n q m a b lm) : ∀ (i : Nat) (E : Nat → Int32), i ≤ n + 1 → RQ q n m a b lm E i → (∀ i' l' s' c', vM q n m i' l' s' c' → Rm q n m a b lm E i' l' s' c' ∨ i' < i → Rm q n m a b lm (ctI D i E) i' l' s' c')
  | 0, E, _, hR => fun p' l' s' c' hv h => h.elim id (fun h => by omega)
  | i + 1, E, hi, hR => by
    intro p' l' s' c' hv h
    obtain ⟨h1, h2, h3, h4, hb, hq, hm, hm2⟩ := id H
    rw [ctI, h1]
    have C := ctL_ok H (show i ≤ n by omega) q 0 E (by omega) hR
    refine ctI_ok H i _ (by omega) (fun hlt l2 s2 c2 a1 a2 a3 => C _ _ _ _ ⟨hlt, a1, a2, a3⟩ (Or.inr ⟨rfl, by omega, by omega⟩)) p' l' s' c' hv ?_
    rcases h with h | h
    · exact Or.inl (C _ _ _ _ hv (Or.inl h))
    · by_cases e : p' = i
      · exact Or.inl (C _ _ _ _ hv (Or.inr ⟨e, by omega, by have := hv.2.1; omega⟩))
      · exact Or.inr (by omega)
/-- the model's table is right -/
theorem ct_right {D : Md} {n q m a b lm : Nat} (H : cTH D n q m a b lm) (E : Nat → Int32) : ∀ i, RQ q n m a b lm (ctI D (n + 1) E) i := fun i hi l s c a1 a2 a3 =>
  ctI_ok H (n + 1) E (Nat.le_refl _) (fun h => by omega) i l s c ⟨hi, a1, a2, a3⟩ (Or.inr (by omega))
/-! the sums: both ways -/
theorem so_sm {q m : Nat} (hm : 0 < m) {u : List Nat} : ∀ (k i last : Nat), (0 < i → last = u.getD (i - 1) 0) → soF q m u k i (smN q u i % m) last = smN q u (i + k) % m
  | 0, i, last, _ => rfl
  | k + 1, i, last, h => by
    rw [soF, sw_st (Nat.mod_lt _ hm)]
    have e : (smN q u i % m + stpN q i last (u.getD i 0)) % m = smN q u (i + 1) % m := by
      rw [Nat.mod_add_mod, smN]
      congr 2
      unfold stpN
      by_cases e2 : q = 2
      · rw [if_pos e2, if_pos e2]
      · rw [if_neg e2, if_neg e2]
        by_cases h0 : 0 < i
        · rw [h h0]
        · rw [if_neg (fun e => h0 e.1), if_neg (fun e => h0 e.1)]
    rw [e, so_sm hm (u := u) k (i + 1) (u.getD i 0) (fun _ => rfl), show i + 1 + k = i + (k + 1) by omega]
theorem soV_sm {q m : Nat} (hm : 0 < m) (u : List Nat) : soV q m u = smN q u u.length % m := by
  have := so_sm (q := q) hm (u := u) u.length 0 0 (fun h => by omega)
  rw [Nat.zero_add, show smN q u 0 % m = 0 from Nat.zero_mod m] at this
  exact this
theorem ho_is {D : Md} {b lm : Nat} (hb : bOK D.1 D.2.2.2.2.1 b lm) (hq : 2 ≤ D.1 ∧ D.1 ≤ 4) (hm : 0 < D.2.2.1) (u : List Nat) : hoB D.1 D.2.1 D.2.2.1 D.2.2.2.1 b lm u ↔ isM D u := by
  unfold hoB isM
  rw [soV_sm hm]
  refine ⟨fun ⟨h1, h2, h3⟩ => ⟨h1, h2, ?_⟩, fun ⟨h1, h2, h3⟩ => ⟨h1, h2, ?_⟩⟩
  · rcases hb with ⟨b1, -, -⟩ | ⟨b1, b2, b3, b4⟩
    · exact Or.inl b1
    · rw [b4, ← h1] at h3
      exact Or.inr (by rw [b2, h3])
  · rcases hb with ⟨b1, b2, b3⟩ | ⟨b1, b2, b3, b4⟩
    · rw [b3, Nat.mod_one, b2]
    · rcases h3 with h3 | h3
      · exact absurd h3 b1
      · rw [b2] at h3
        have := (nI_eq (by have := Nat.mod_lt (lsN u u.length) (show 0 < D.1 by omega); omega) (by omega)).mp h3
        rw [b4, ← h1]
        exact this
/-! listing -/
def wpL (wv : Nat → Nat) : Nat → Nat → Nat → Nat × Nat
  | 0, l, left => (l, left)
  | k + 1, l, left => if wv l ≤ left then wpL wv k (l + 1) (left - wv l) else (l, left)
def wpV (q m a b lm r p last s c : Nat) (l : Nat) : Nat := wy q m a b lm r p l (swN q m s p last l) ((c + l) % lm)
def wpO (q n m a b lm : Nat) : Nat → Nat → Nat → Nat → Nat → Nat → List Nat → List Nat
  | 0, _, _, _, _, _, acc => acc
  | k + 1, p, left, last, s, c, acc => wpO q n m a b lm k (p + 1) (wpL (wpV q m a b lm k p last s c) (q - 1) 0 left).2 (wpL (wpV q m a b lm k p last s c) (q - 1) 0 left).1 (swN q m s p last (wpL (wpV q m a b lm k p last s c) (q - 1) 0 left).1) ((c + (wpL (wpV q m a b lm k p last s c) (q - 1) 0 left).1) % lm) (acc ++ [(wpL (wpV q m a b lm k p last s c) (q - 1) 0 left).1])
theorem wpL_ok {wv : Nat → Nat} {q : Nat} : ∀ (k l left : Nat), l + k + 1 = q → left + sumN wv l < sumN wv q → (wpL wv k l left).1 < q ∧ (wpL wv k l left).2 < wv (wpL wv k l left).1 ∧ (wpL wv k l left).2 ≤ left
  | 0, l, left, hl, h => by
    rw [wpL]
    refine ⟨by show l < q; omega, ?_, Nat.le_refl _⟩
    have e : q = l + 1 := by omega
    rw [e, sumN] at h
    show left < wv l
    omega
  | k + 1, l, left, hl, h => by
    rw [wpL]
    by_cases e : wv l ≤ left
    · rw [if_pos e]
      obtain ⟨h1, h2, h3⟩ := wpL_ok (wv := wv) (q := q) k (l + 1) (left - wv l) (by omega) (by rw [sumN]; omega)
      exact ⟨h1, h2, by omega⟩
    · rw [if_neg e]
      exact ⟨by show l < q; omega, by show left < wv l; omega, Nat.le_refl _⟩
theorem wi_wp {q n m a b lm : Nat} (hq : 2 ≤ q ∧ q ≤ 4) (h4 : q = 4 → lm = 4) (hn : n ≤ 16) (hm : 0 < m) (hlm : 0 < lm) {f : Nat → Int32} {p : Nat} (hp : p ≤ n) (hR : RO q n m a b lm f p) {last s c : Nat} (hs : s < m) : ∀ (k l left : Nat), l + k < q → left < 2 ^ 31 → wiL f q n m a b lm p last s c k l (nI left) = ((wpL (wpV q m a b lm (n - p) p last s c) k l left).1, nI (wpL (wpV q m a b lm (n - p) p last s c) k l left).2)
  | 0, l, left, _, _ => rfl
  | k + 1, l, left, hl, hle => by
    rw [wiL, wpL]
    have e : weV f q n m a b lm p l (swN q m s p last l) ((c + l) % lm) = nI (wpV q m a b lm (n - p) p last s c l) := we_ok hp hR (by omega) (swN_lt hm hs) (Nat.mod_lt _ hlm)
    have hb : wpV q m a b lm (n - p) p last s c l ≤ 2 ^ 30 := wy_le hq h4 (by omega) _ _ _ _
    rw [e]
    by_cases h : wpV q m a b lm (n - p) p last s c l ≤ left
    · rw [if_pos h, if_pos (nI_le h (by omega)), pk_sub h]
      exact wi_wp hq h4 hn hm hlm hp hR hs k (l + 1) _ (by omega) (by omega)
    · rw [if_neg h, if_neg (nI_ge (by omega) (by omega))]
theorem wr_wp {q n m a b lm : Nat} (hq : 2 ≤ q ∧ q ≤ 4) (h4 : q = 4 → lm = 4) (hn : n ≤ 16) (hm : 0 < m) (hlm : 0 < lm) {f : Nat → Int32} (hR : ∀ p, 1 ≤ p → RO q n m a b lm f p) : ∀ (k p left last s c : Nat) (acc : List Nat), p + k = n + 1 → 1 ≤ p → s < m → left < wy q m a b lm k (p - 1) last s c → wrO f q n m a b lm k p (nI left) last s c acc = wpO q n m a b lm k p left last s c acc
  | 0, p, left, last, s, c, acc, _, _, _, _ => rfl
  | k + 1, p, left, last, s, c, acc, hk, hp, hs, hle => by
    have hb := wy_le (q := q) (m := m) (a := a) (b := b) (lm := lm) hq h4 (show k + 1 ≤ 16 by omega) (p - 1) last s c
    have W := wi_wp hq h4 hn hm hlm (show p ≤ n by omega) (hR p hp) (last := last) (s := s) (c := c) hs (q - 1) 0 left (by omega) (by omega)
    rw [show n - p = k by omega] at W
    have hS : wy q m a b lm (k + 1) (p - 1) last s c = sumN (wpV q m a b lm k p last s c) q := by
      rw [wy_s, show p - 1 + 1 = p by omega]
      rfl
    rw [hS] at hle
    obtain ⟨o1, o2, o3⟩ := wpL_ok (wv := wpV q m a b lm k p last s c) (q := q) (q - 1) 0 left (by omega) (by rw [sumN]; omega)
    rw [wrO, wpO, W]
    refine wr_wp hq h4 hn hm hlm hR k (p + 1) _ _ _ _ _ (by omega) (by omega) (swN_lt hm hs) ?_
    rw [show p + 1 - 1 = p by omega]
    exact o2
theorem wpO_ok (q n m a b lm : Nat) (hq : 2 ≤ q) : ∀ (k p left last s c : Nat) (acc : List Nat), (wpO q n m a b lm k p left last s c acc).length = acc.length + k ∧ ((∀ x ∈ acc, x < q) → ∀ x ∈ wpO q n m a b lm k p left last s c acc, x < q)
  | 0, p, left, last, s, c, acc => ⟨rfl, fun h => h⟩
  | k + 1, p, left, last, s, c, acc => by
    rw [wpO]
    generalize hX : wpL (wpV q m a b lm k p last s c) (q - 1) 0 left = X
    have hl : X.1 ≤ 0 + (q - 1) := by
      rw [← hX]
      generalize wpV q m a b lm k p last s c = wv
      generalize q - 1 = z
      generalize 0 = y
      generalize left = x
      induction z generalizing y x with
      | zero => exact Nat.le_refl _
      | succ z ih =>
        rw [wpL]
        split
        · have := ih (y + 1) (x - wv y); omega
        · show y ≤ _; omega
    obtain ⟨h1, h2⟩ := wpO_ok q n m a b lm hq k (p + 1) X.2 X.1 (swN q m s p last X.1) ((c + X.1) % lm) (acc ++ [X.1])
    refine ⟨by rw [h1]; simp; omega, fun h => h2 (fun x hx => ?_)⟩
    rcases List.mem_append.mp hx with h9 | h9
    · exact h x h9
    · rw [List.mem_singleton.mp h9]; omega
