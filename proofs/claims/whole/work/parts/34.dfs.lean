/-! the search is the same as trying all words -/
def lpR (g : Nat → RR → RR) : Nat → Nat → RR → RR
  | 0, _, r => r
  | c + 1, l, r => lpR g c (l + 1) (g l r)
theorem lpR_add (g : Nat → RR → RR) : ∀ (a b k : Nat) (r : RR), lpR g (a + b) k r = lpR g b (k + a) (lpR g a k r)
  | 0, b, k, r => by rw [Nat.zero_add]; rfl
  | a + 1, b, k, r => by rw [show a + 1 + b = (a + b) + 1 by omega, lpR, lpR, lpR_add g a b (k + 1), show k + 1 + a = k + (a + 1) by omega]
theorem lpR_cong {g h : Nat → RR → RR} : ∀ (c k : Nat) (r : RR), (∀ y r, k ≤ y → y < k + c → g y r = h y r) → lpR g c k r = lpR h c k r
  | 0, k, r, _ => rfl
  | c + 1, k, r, e => by rw [lpR, lpR, e k r (Nat.le_refl _) (by omega), lpR_cong c (k + 1) _ (fun y r h1 h2 => e y r (by omega) (by omega))]
theorem lpR_shift (g : Nat → RR → RR) (b : Nat) : ∀ (c k : Nat) (r : RR), lpR g c (b + k) r = lpR (fun y => g (b + y)) c k r
  | 0, k, r => rfl
  | c + 1, k, r => by rw [lpR, lpR, show b + k + 1 = b + (k + 1) by omega, lpR_shift g b c (k + 1)]
theorem lpR_nest (g : Nat → RR → RR) (b : Nat) : ∀ (c l : Nat) (r : RR), lpR g (c * b) (l * b) r = lpR (fun l r => lpR (fun y => g (l * b + y)) b 0 r) c l r
  | 0, l, r => by rw [Nat.zero_mul]; rfl
  | c + 1, l, r => by
    rw [show (c + 1) * b = b + c * b by rw [Nat.add_mul, Nat.one_mul, Nat.add_comm], lpR_add, show l * b + b = (l + 1) * b by rw [Nat.add_mul, Nat.one_mul], lpR_nest g b c (l + 1)]
    have := lpR_shift g (l * b) b 0 r
    rw [Nat.add_zero] at this
    rw [this]
    rfl
def spF (W : List Nat → RR → RR) (q : Nat) : Nat → List Nat → RR → RR
  | 0, x, r => W x r
  | k + 1, x, r => lpR (fun l r => spF W q k (x ++ [l]) r) q 0 r
theorem spF_s (W : List Nat → RR → RR) (q k : Nat) (x : List Nat) (r : RR) : spF W q (k + 1) x r = lpR (fun l r => spF W q k (x ++ [l]) r) q 0 r := rfl
theorem lpR_id {g : Nat → RR → RR} : ∀ (c k : Nat) (r : RR), (∀ y r, g y r = r) → lpR g c k r = r
  | 0, k, r, _ => rfl
  | c + 1, k, r, h => by rw [lpR, h, lpR_id c (k + 1) r h]
theorem spF_id {W : List Nat → RR → RR} {q : Nat} : ∀ (k : Nat) (x : List Nat) (r : RR), (∀ y, y.length = k → ∀ r, W (x ++ y) r = r) → spF W q k x r = r
  | 0, x, r, h => by
    have := h [] rfl r
    rw [List.append_nil] at this
    exact this
  | k + 1, x, r, h => by
    rw [spF_s]
    refine lpR_id _ _ _ (fun l r => spF_id k (x ++ [l]) r (fun y hy r => ?_))
    rw [List.append_assoc]
    exact h _ (by simp; omega) r
theorem nuW_cons {q k l y : Nat} (hq : 0 < q) (hl : l < q) (hy : y < q ^ k) : nuW q (k + 1) (l * q ^ k + y) = l :: nuW q k y := by
  have hp := Nat.pow_pos (n := k) hq
  refine list_ext (by rw [List.length_cons, nuW_len, nuW_len]) (fun i hi => ?_)
  rw [nuW_len] at hi
  rw [nuW_get hi]
  cases i with
  | zero =>
    show (l * q ^ k + y) / q ^ (k + 1 - 1 - 0) % q = l
    rw [show k + 1 - 1 - 0 = k by omega, (dm hy).1, Nat.mod_eq_of_lt hl]
  | succ i =>
    show (l * q ^ k + y) / q ^ (k + 1 - 1 - (i + 1)) % q = (nuW q k y).getD i 0
    rw [nuW_get (by omega), show k + 1 - 1 - (i + 1) = k - 1 - i by omega]
    have e : q ^ k = q ^ (k - 1 - i) * (q * q ^ i) := by rw [← Nat.pow_succ', ← Nat.pow_add]; congr 1; omega
    have hp2 := Nat.pow_pos (n := k - 1 - i) hq
    rw [e, show l * (q ^ (k - 1 - i) * (q * q ^ i)) + y = q ^ (k - 1 - i) * (q * (l * q ^ i)) + y by
      rw [Nat.mul_left_comm l, Nat.mul_left_comm l], Nat.mul_add_div hp2, Nat.mul_add_mod]
theorem spF_all {W : List Nat → RR → RR} {q : Nat} (hq : 0 < q) : ∀ (k : Nat) (x : List Nat) (r : RR), spF W q k x r = lpR (fun y => W (x ++ nuW q k y)) (q ^ k) 0 r
  | 0, x, r => by
    show W x r = W (x ++ nuW q 0 0) r
    rw [show nuW q 0 0 = [] from rfl, List.append_nil]
  | k + 1, x, r => by
    have N := lpR_nest (fun y => W (x ++ nuW q (k + 1) y)) (q ^ k) q 0 r
    rw [Nat.zero_mul] at N
    rw [spF_s, Nat.pow_succ', N]
    refine lpR_cong _ _ _ (fun l r h1 h2 => ?_)
    rw [spF_all hq k]
    refine lpR_cong _ _ _ (fun y r h3 h4 => ?_)
    rw [nuW_cons hq (by omega) (by omega), List.append_assoc]
    rfl
theorem brF_all (K : Nat) (tr : Nat → List Nat) (tn q n : Nat) : ∀ k, brF K tr tn q n k = lpR (fun y => stR K tr tn (nuW q n y)) k 0 (0, 0, [])
  | 0 => rfl
  | k + 1 => by
    rw [brF, brF_all K tr tn q n k, lpR_add _ k 1 0, Nat.zero_add]
    rfl
theorem prN_pos {K : Nat} (hK : 0 < K) {tr : Nat → List Nat} {v : List Nat} : ∀ (c j P : Nat), 0 < P → (∀ i, j ≤ i → i < j + c → 0 < em (tr i) v) → 0 < prN K tr v c j P
  | 0, j, P, h, _ => h
  | c + 1, j, P, h, he => by
    have h1 := Nat.mul_pos h (he j (Nat.le_refl _) (by omega))
    exact prN_pos hK c (j + 1) _ (by omega) (fun i a b => he i (by omega) (by omega))
theorem prN_z {K : Nat} {tr : Nat → List Nat} {v : List Nat} : ∀ (c j : Nat), prN K tr v c j 0 = 0
  | 0, j => rfl
  | c + 1, j => by rw [prN, Nat.zero_mul, Nat.min_eq_right (Nat.zero_le _), prN_z c (j + 1)]
theorem prN_zero {K : Nat} {tr : Nat → List Nat} {v : List Nat} : ∀ (c j P i : Nat), j ≤ i → i < j + c → em (tr i) v = 0 → prN K tr v c j P = 0
  | 0, j, P, i, h1, h2, _ => by omega
  | c + 1, j, P, i, h1, h2, h3 => by
    rw [prN]
    by_cases e : i = j
    · subst e
      rw [h3, Nat.mul_zero, Nat.min_eq_right (Nat.zero_le _), prN_z]
    · exact prN_zero c (j + 1) _ i (by omega) (by omega) h3
theorem em_pre {s x y : List Nat} (h : 0 < em s (x ++ y)) {k : Nat} (hk : k ≤ s.length - y.length) : 0 < em (s.take k) x := by
  rw [em_sub] at h ⊢
  obtain ⟨s1, s2, e, h1, h2⟩ := List.sublist_append_iff.mp h
  have hl := h2.length_le
  subst e
  rw [List.length_append] at hk
  rw [List.take_append_of_le_length (by omega)]
  exact (List.take_sublist _ _).trans h1
theorem em_long {s x : List Nat} (h : x.length < s.length) : em s x = 0 := by
  by_cases e : 0 < em s x
  · have := ((em_sub x s).mp e).length_le
    omega
  · omega
/-! one letter more of a trace -/
theorem foK_v (r : List Nat) (l d fr to : Nat) (hft : fr + 13 ≤ to) : ∀ (c k : Nat) (e : Nat → Int32) (z : Nat), k + c ≤ 13 → foK r l d fr to c k e z = if to + k ≤ z ∧ z < to + k + c then (if 0 < z - to ∧ r.getD (z - to - 1) 0 = l then (if z - to ≤ d then e (fr + (z - to)) else 0) + e (fr + (z - to) - 1) else (if z - to ≤ d then e (fr + (z - to)) else 0)) else e z
  | 0, k, e, z, _ => by rw [foK, if_neg (by omega)]
  | c + 1, k, e, z, hk => by
    rw [foK, foK_v r l d fr to hft c (k + 1) _ z (by omega)]
    by_cases e1 : z = to + k
    · subst e1
      rw [if_neg (show ¬ (to + (k + 1) ≤ to + k ∧ to + k < to + (k + 1) + c) by omega), if_pos (show to + k ≤ to + k ∧ to + k < to + k + (c + 1) by omega), up_eq, show to + k - to = k by omega]
    · by_cases h1 : to + k ≤ z ∧ z < to + k + (c + 1)
      · rw [if_pos (show to + (k + 1) ≤ z ∧ z < to + (k + 1) + c by omega), if_pos h1, up_ne _ _ (show fr + (z - to) ≠ to + k by omega), up_ne _ _ (show fr + (z - to) - 1 ≠ to + k by omega)]
      · rw [if_neg (show ¬ (to + (k + 1) ≤ z ∧ z < to + (k + 1) + c) by omega), if_neg h1, up_ne _ _ e1]
/-- the row of depth d is right for the trace j -/
def rwOK (r : List Nat) (n d j : Nat) (x : List Nat) (e : Nat → Int32) : Prop := ∀ k, r.length - (n - d) ≤ k → k ≤ r.length → k ≤ d → e ((d * 8 + j) * 13 + k) = nI (em (r.take k) x)
theorem nI_pos0 {m : Nat} (h : m < 2 ^ 31) : (0 : Int32) < nI m ↔ 0 < m := nI_ltI (a := 0) (by decide) h
theorem fo_ok {r : List Nat} {n d l j : Nat} (hn : n ≤ 12) (hr : r.length ≤ n) (hd : d < n) {x : List Nat} (hx : x.length = d) {e : Nat → Int32} (h : rwOK r n d j x e) : rwOK r n (d + 1) j (x ++ [l]) (foE r n d l j e) ∧ (foB r n d l j e = true ↔ 0 < em (r.take (r.length - (n - (d + 1)))) (x ++ [l])) ∧ ∀ d' j' k', j < 8 → j' < 8 → k' < 13 → (d' ≠ d + 1 ∨ j' ≠ j) → foE r n d l j e ((d' * 8 + j') * 13 + k') = e ((d' * 8 + j') * 13 + k') := by
  have V := foK_v r l d ((d * 8 + j) * 13) (((d + 1) * 8 + j) * 13) (by omega) (foH r d + 1 - foL r n d) (foL r n d) e
  have hL : foL r n d = r.length - (n - (d + 1)) := by unfold foL; congr 1
  have hH : foH r d ≤ 12 ∧ foL r n d ≤ foH r d ∧ foH r d = min (d + 1) r.length := by
    rw [hL]
    unfold foH
    split <;> omega
  obtain ⟨hh1, hh2, hh3⟩ := hH
  have R : rwOK r n (d + 1) j (x ++ [l]) (foE r n d l j e) := by
    intro k k1 k2 k3
    unfold foE
    rw [V _ (by omega), if_pos (by omega), show ((d + 1) * 8 + j) * 13 + k - ((d + 1) * 8 + j) * 13 = k by omega]
    cases k with
    | zero =>
      rw [if_neg (fun q => by have := q.1; omega), if_pos (Nat.zero_le _), h 0 (by omega) (by omega) (by omega), List.take_zero, em_nil, em_nil]
    | succ k =>
      have t := take_snoc (show k < r.length by omega)
      have first : (if k + 1 ≤ d then e ((d * 8 + j) * 13 + (k + 1)) else 0) = nI (em (r.take (k + 1)) x) := by
        by_cases hc : k + 1 ≤ d
        · rw [if_pos hc, h (k + 1) (by omega) (by omega) hc]
        · rw [if_neg hc, em_long (by rw [List.length_take]; omega)]; rfl
      have second : e ((d * 8 + j) * 13 + (k + 1) - 1) = nI (em (r.take k) x) := h k (by omega) (by omega) (by omega)
      rw [first, second, show k + 1 - 1 = k by omega]
      have sn := em_snoc (r.getD k 0) l x (r.take k)
      rw [← t] at sn
      rw [sn]
      by_cases hc : r.getD k 0 = l
      · rw [if_pos ⟨by omega, hc⟩, if_pos hc, nI_add]
      · rw [if_neg (fun q => hc q.2), if_neg hc]
        rfl
  refine ⟨R, ?_, fun d' j' k' hj hj' hk' hne => ?_⟩
  · unfold foB
    rw [decide_eq_true_iff, hL, R _ (Nat.le_refl _) (by omega) (by omega)]
    exact nI_pos0 (Nat.lt_of_le_of_lt (em_4096 (by rw [List.length_append, List.length_singleton]; omega)) (by decide))
  · unfold foE
    rw [V _ (by omega), if_neg]
    intro q
    have : d' = d + 1 ∧ j' = j := by omega
    omega
theorem af_ok {tr : Nat → List Nat} {size n d l : Nat} (hs : size ≤ 8) (hn : n ≤ 12) (hr : ∀ j, j < size → (tr j).length ≤ n) (hd : d < n) {x : List Nat} (hx : x.length = d) : ∀ (c j : Nat) (e : Nat → Int32), j + c = size → (∀ i, i < size → rwOK (tr i) n d i x e) → (∀ i, i < j → rwOK (tr i) n (d + 1) i (x ++ [l]) e ∧ 0 < em ((tr i).take ((tr i).length - (n - (d + 1)))) (x ++ [l])) →
    (∀ d' j' k', j' < 8 → k' < 13 → d' ≠ d + 1 → (afF tr n d l c j e).2 ((d' * 8 + j') * 13 + k') = e ((d' * 8 + j') * 13 + k')) ∧ ((afF tr n d l c j e).1 = true → ∀ i, i < size → rwOK (tr i) n (d + 1) i (x ++ [l]) (afF tr n d l c j e).2 ∧ 0 < em ((tr i).take ((tr i).length - (n - (d + 1)))) (x ++ [l])) ∧ ((afF tr n d l c j e).1 = false → ∃ i, i < size ∧ em ((tr i).take ((tr i).length - (n - (d + 1)))) (x ++ [l]) = 0)
  | 0, j, e, hj, h, h2 => ⟨fun _ _ _ _ _ _ => rfl, fun _ i hi => h2 i (by omega), fun q => (by cases q)⟩
  | c + 1, j, e, hj, h, h2 => by
    obtain ⟨f1, f2, f3⟩ := fo_ok (l := l) hn (hr j (by omega)) hd hx (h j (by omega))
    rw [afF]
    by_cases hb : foB (tr j) n d l j e = true
    · rw [if_pos hb]
      have A := af_ok (l := l) hs hn hr hd hx c (j + 1) (foE (tr j) n d l j e) (by omega) (fun i hi k k1 k2 k3 => ?_) (fun i hi => ?_)
      · obtain ⟨a1, a2, a3⟩ := A
        exact ⟨fun d' j' k' hj' hk' hne => (a1 d' j' k' hj' hk' hne).trans (f3 d' j' k' (by omega) hj' hk' (Or.inl hne)), a2, a3⟩
      · rw [f3 d i k (by omega) (by omega) (by have := hr i hi; omega) (Or.inl (by omega))]
        exact h i hi k k1 k2 k3
      · by_cases e1 : i = j
        · subst e1
          exact ⟨f1, f2.mp hb⟩
        · obtain ⟨g1, g2⟩ := h2 i (by omega)
          refine ⟨fun k k1 k2 k3 => ?_, g2⟩
          rw [f3 (d + 1) i k (by omega) (by omega) (by have := hr i (by omega); omega) (Or.inr e1)]
          exact g1 k k1 k2 k3
    · rw [if_neg hb]
      refine ⟨fun d' j' k' hj' hk' hne => f3 d' j' k' (by omega) hj' hk' (Or.inl hne), fun q => (by cases q), fun _ => ⟨j, by omega, ?_⟩⟩
      exact Nat.eq_zero_of_not_pos (fun q => hb (f2.mpr q))
def IV (tr : Nat → List Nat) (size n d : Nat) (x : List Nat) (S : TS) : Prop := S.2.1.length = n ∧ S.2.1.take d = x ∧ ∀ i, i < size → rwOK (tr i) n d i x S.1
def RLk (K : Nat) (S : TS) (r : RR) : Prop := S.2.2.2.1 = nI r.1 ∧ S.2.2.2.2 = lN r.2.1 ∧ r.2.1 ≤ K ∧ (r.2.1 ≠ 0 → S.2.2.1 = r.2.2)
theorem mn_v {K : Nat} (hK : K = 1000000000000000) {mn : Int64 → Int64} (hmn : ∀ y, mn y = mnP y) {P m : Nat} (hP : P ≤ K) (hm : m ≤ 4096) : mn (lN P * (nI m).toInt64) = lN (min K (P * m)) := by
  rw [hmn, nI_l (by omega), lN_mul]
  unfold mnP
  rw [fa_litL 1000000000000000, show (OfNat.ofNat 1000000000000000 : Nat) = K from hK.symm]
  have hPx : P * m ≤ K * 4096 := Nat.mul_le_mul hP hm
  by_cases h : P * m < K
  · rw [if_pos ((lt63 (by omega) (by omega)).mpr h), Nat.min_eq_right (by omega)]
  · rw [if_neg (fun e => h ((lt63 (by omega) (by omega)).mp e)), Nat.min_eq_left (by omega)]
theorem wg_v {K : Nat} (hK : K = 1000000000000000) {mn : Int64 → Int64} (hmn : ∀ y, mn y = mnP y) {tr : Nat → List Nat} {size n : Nat} (hn : n ≤ 12) (hr : ∀ j, j < size → (tr j).length ≤ n) {x : List Nat} (hx : x.length = n) {e : Nat → Int32} (h : ∀ i, i < size → rwOK (tr i) n n i x e) : ∀ (c j P : Nat), j + c = size → P ≤ K → wgP mn tr n e c j (lN P) = lN (prN K tr x c j P)
  | 0, j, P, _, _ => rfl
  | c + 1, j, P, hj, hP => by
    have h1 := h j (by omega) (tr j).length (by omega) (Nat.le_refl _) (hr j (by omega))
    rw [List.take_length] at h1
    rw [wgP, prN, h1, mn_v hK hmn hP (em_4096 (by omega))]
    exact wg_v hK hmn hn hr hx h c (j + 1) _ (by omega) (Nat.min_le_left _ _)
theorem ex_ok {K : Nat} (hK : K = 1000000000000000) {mn : Int64 → Int64} (hmn : ∀ y, mn y = mnP y) {tr : Nat → List Nat} {size q n : Nat} (hs : size ≤ 8) (hn : n ≤ 12) (hr : ∀ j, j < size → (tr j).length ≤ n) :
    ∀ (k d : Nat) (S : TS) (x : List Nat) (r : RR), d + k = n → x.length = d → IV tr size n d x S → (∀ i, i < size → 0 < em ((tr i).take ((tr i).length - (n - d))) x) → RLk K S r →
      let S' := exF (wgV (fun e => wgP mn tr n e size 0 1)) (fun d l e => afF tr n d l size 0 e) q k d S
      S'.2.1.length = n ∧ S'.2.1.take d = x ∧ (∀ d' j' k', d' ≤ d → j' < 8 → k' < 13 → S'.1 ((d' * 8 + j') * 13 + k') = S.1 ((d' * 8 + j') * 13 + k')) ∧ RLk K S' (spF (stR K tr size) q k x r) := by
  intro k
  induction k with
  | zero =>
    intro d S x r hd hx hI hp hR
    obtain ⟨i1, i2, i3⟩ := hI
    obtain ⟨r1, r2, r3, r4⟩ := hR
    have ed : d = n := by omega
    subst ed
    have et : S.2.1 = x := by rw [← i2, List.take_of_length_le (by omega)]
    have W := wg_v hK hmn hn hr hx i3 size 0 1 (by omega) (by omega)
    have Wp : 0 < prN K tr x size 0 1 := prN_pos (by omega) size 0 1 (by decide) (fun i _ h2 => by
      have := hp i (by omega)
      rw [Nat.sub_self, Nat.sub_zero, List.take_length] at this
      exact this)
    have Wl := prN_le (K := K) (tr := tr) (v := x) size 0 1 (by omega)
    show (wgV _ S).2.1.length = d ∧ (wgV _ S).2.1.take d = x ∧ (∀ d' j' k', d' ≤ d → j' < 8 → k' < 13 → (wgV _ S).1 _ = _) ∧ RLk K (wgV _ S) (stR K tr size x r)
    unfold wgV stR
    rw [if_pos Wp]
    simp only
    rw [show (wgP mn tr d S.1 size 0 1) = lN (prN K tr x size 0 1) from W, r2]
    generalize prN K tr x size 0 1 = p at *
    by_cases hc : r.2.1 < p
    · rw [if_pos ((lt63 (by omega) (by omega)).mpr hc), if_pos hc]
      exact ⟨i1, i2, fun _ _ _ _ _ _ => rfl, by show S.2.2.2.1 + 1 = nI (r.1 + 1); rw [r1, nI_1], rfl, Wl, fun _ => et⟩
    · rw [if_neg (fun e => hc ((lt63 (by omega) (by omega)).mp e)), if_neg hc]
      exact ⟨i1, i2, fun _ _ _ _ _ _ => rfl, by show S.2.2.2.1 + 1 = nI (r.1 + 1); rw [r1, nI_1], rfl, r3, r4⟩
  | succ k ih =>
    intro d S x r hd hx hI hp hR
    have loop : ∀ (c l : Nat) (S : TS) (r : RR), IV tr size n d x S → RLk K S r →
        let S' := lpF (fun l S => if (afF tr n d l size 0 S.1).1 then exF (wgV (fun e => wgP mn tr n e size 0 1)) (fun d l e => afF tr n d l size 0 e) q k (d + 1) ((afF tr n d l size 0 S.1).2, S.2.1.set d l, S.2.2) else ((afF tr n d l size 0 S.1).2, S.2)) c l S
        S'.2.1.length = n ∧ S'.2.1.take d = x ∧ (∀ d' j' k', d' ≤ d → j' < 8 → k' < 13 → S'.1 ((d' * 8 + j') * 13 + k') = S.1 ((d' * 8 + j') * 13 + k')) ∧ RLk K S' (lpR (fun l r => spF (stR K tr size) q k (x ++ [l]) r) c l r) := by
      intro c
      induction c with
      | zero => intro l S r hI hR; exact ⟨hI.1, hI.2.1, fun _ _ _ _ _ _ => rfl, hR⟩
      | succ c ihc =>
        intro l S r hI hR
        obtain ⟨i1, i2, i3⟩ := hI
        obtain ⟨a1, a2, a3⟩ := af_ok (l := l) hs hn hr (show d < n by omega) hx size 0 S.1 (by omega) i3 (fun i hi => by omega)
        show (lpF _ (c + 1) l S).2.1.length = n ∧ (lpF _ (c + 1) l S).2.1.take d = x ∧ _ ∧ RLk K (lpF _ (c + 1) l S) _
        rw [lpF, lpR]
        by_cases hb : (afF tr n d l size 0 S.1).1 = true
        · rw [if_pos hb]
          have b := a2 hb
          have hset : (S.2.1.set d l).take (d + 1) = x ++ [l] := by
            rw [take_snoc (by rw [List.length_set]; omega), List.take_set_of_le (Nat.le_refl d), i2, List.getD_eq_getElem?_getD, List.getElem?_set_self (by omega)]
            rfl
          obtain ⟨e1, e2, e3, e4⟩ := ih (d + 1) ((afF tr n d l size 0 S.1).2, S.2.1.set d l, S.2.2) (x ++ [l]) r (by omega) (by rw [List.length_append, List.length_singleton]; omega) ⟨by show (S.2.1.set d l).length = n; rw [List.length_set]; exact i1, hset, fun i hi => (b i hi).1⟩ (fun i hi => (b i hi).2) hR
          generalize exF (wgV (fun e => wgP mn tr n e size 0 1)) (fun d l e => afF tr n d l size 0 e) q k (d + 1) ((afF tr n d l size 0 S.1).2, S.2.1.set d l, S.2.2) = S2 at *
          have rows : ∀ d' j' k', d' ≤ d → j' < 8 → k' < 13 → S2.1 ((d' * 8 + j') * 13 + k') = S.1 ((d' * 8 + j') * 13 + k') := fun d' j' k' h1 h2 h3 => (e3 d' j' k' (by omega) h2 h3).trans (a1 d' j' k' h2 h3 (by omega))
          have tk : S2.2.1.take d = x := by
            have := congrArg (List.take d) e2
            rw [List.take_take, Nat.min_eq_left (by omega), List.take_append_of_le_length (by omega), List.take_of_length_le (l := x) (by omega)] at this
            exact this
          obtain ⟨z1, z2, z3, z4⟩ := ihc (l + 1) S2 _ ⟨e1, tk, fun i hi kk k1 k2 k3 => by rw [rows d i kk (Nat.le_refl _) (by omega) (by have := hr i hi; omega)]; exact i3 i hi kk k1 k2 k3⟩ e4
          exact ⟨z1, z2, fun d' j' k' h1 h2 h3 => (z3 d' j' k' h1 h2 h3).trans (rows d' j' k' h1 h2 h3), z4⟩
        · rw [if_neg hb]
          obtain ⟨i, hi, hz⟩ := a3 (by simpa using hb)
          have rows : ∀ d' j' k', d' ≤ d → j' < 8 → k' < 13 → (afF tr n d l size 0 S.1).2 ((d' * 8 + j') * 13 + k') = S.1 ((d' * 8 + j') * 13 + k') := fun d' j' k' h1 h2 h3 => a1 d' j' k' h2 h3 (by omega)
          have sid : spF (stR K tr size) q k (x ++ [l]) r = r := spF_id k _ r (fun y hy r => by
            unfold stR
            have z0 : em (tr i) (x ++ [l] ++ y) = 0 := by
              by_cases hc : 0 < em (tr i) (x ++ [l] ++ y)
              · have := em_pre hc (k := (tr i).length - (n - (d + 1))) (by omega)
                omega
              · omega
            rw [prN_zero size 0 1 i (Nat.zero_le _) (by omega) z0, if_neg (by omega)])
          rw [sid]
          obtain ⟨z1, z2, z3, z4⟩ := ihc (l + 1) ((afF tr n d l size 0 S.1).2, S.2) r ⟨i1, i2, fun i hi kk k1 k2 k3 => by show (afF tr n d l size 0 S.1).2 _ = _; rw [rows d i kk (Nat.le_refl _) (by omega) (by have := hr i hi; omega)]; exact i3 i hi kk k1 k2 k3⟩ hR
          exact ⟨z1, z2, fun d' j' k' h1 h2 h3 => (z3 d' j' k' h1 h2 h3).trans (rows d' j' k' h1 h2 h3), z4⟩
    exact loop q 0 S r hI hR
theorem seE_v (tr : Nat → List Nat) (n : Nat) : ∀ (c j : Nat) (e : Nat → Int32), (seE tr n c j e).1 = true → ∀ i, (j ≤ i ∧ i < j + c) ∨ e ((0 * 8 + i) * 13 + 0) = 1 → (seE tr n c j e).2 ((0 * 8 + i) * 13 + 0) = 1
  | 0, j, e, _, i, h => h.elim (fun h => by omega) id
  | c + 1, j, e, ht, i, h => by
    rw [seE] at ht ⊢
    by_cases hc : (tr j).length ≤ n
    · rw [if_pos hc] at ht ⊢
      refine seE_v tr n c (j + 1) _ ht i ?_
      by_cases e1 : i = j
      · right; rw [e1, up_eq]
      · rcases h with h | h
        · left; omega
        · right; rw [up_ne _ _ (by omega)]; exact h
    · rw [if_neg hc] at ht; cases ht
/-- the whole search -/
theorem sr_ok {K : Nat} (hK : K = 1000000000000000) {mn : Int64 → Int64} (hmn : ∀ y, mn y = mnP y) {tr : Nat → List Nat} {size q n : Nat} (hq : 2 ≤ q) (hs : size ≤ 8) (hn : n ≤ 12) (S : TS) :
    RLk K (srV (wgV (fun e => wgP mn tr n e size 0 1)) (fun d l e => afF tr n d l size 0 e) tr size q n S) (brF K tr size q n (q ^ n)) ∧ (if (seE tr n size 0 S.1).1 then (srV (wgV (fun e => wgP mn tr n e size 0 1)) (fun d l e => afF tr n d l size 0 e) tr size q n S).2.2.2.1 else 0) = nI (brF K tr size q n (q ^ n)).1 := by
  unfold srV
  by_cases ht : (seE tr n size 0 S.1).1 = true
  · have hr : ∀ j, j < size → (tr j).length ≤ n := fun j hj => (seE_t tr n size 0 S.1).mp ht j (Nat.zero_le _) (by omega)
    have E := seE_v tr n size 0 S.1 ht
    rw [if_pos ht]
    obtain ⟨-, -, -, R⟩ := ex_ok hK hmn (q := q) hs hn hr n 0 ((seE tr n size 0 S.1).2, List.replicate n 0, S.2.2.1, 0, 0) [] (0, 0, []) (by omega) rfl ⟨List.length_replicate, rfl, fun i hi k k1 k2 k3 => by
      have e0 : k = 0 := by omega
      subst e0
      refine (E i (Or.inl ⟨Nat.zero_le _, by omega⟩)).trans ?_
      rw [List.take_zero]
      rfl⟩ (fun i hi => by
        rw [Nat.sub_zero, show (tr i).length - n = 0 by have := hr i hi; omega, List.take_zero, em_nil]
        decide) ⟨rfl, rfl, Nat.zero_le _, fun h => absurd rfl h⟩
    rw [spF_all (by omega)] at R
    have eb : lpR (fun y => stR K tr size ([] ++ nuW q n y)) (q ^ n) 0 (0, 0, []) = brF K tr size q n (q ^ n) := (brF_all K tr size q n (q ^ n)).symm
    rw [eb] at R
    exact ⟨R, by rw [if_pos ht]; exact R.1⟩
  · rw [if_neg ht, if_neg ht]
    have hex : ∃ i, i < size ∧ n < (tr i).length := Classical.byContradiction (fun h => ht ((seE_t tr n size 0 S.1).mpr (fun i _ hi => Nat.le_of_not_lt (fun q => h ⟨i, by omega, q⟩))))
    obtain ⟨i, hi, hl⟩ := hex
    have eb : brF K tr size q n (q ^ n) = (0, 0, []) := by
      rw [brF_all]
      refine lpR_id _ _ _ (fun y r => ?_)
      unfold stR
      rw [prN_zero size 0 1 i (Nat.zero_le _) (by omega) (em_long (by rw [nuW_len]; exact hl)), if_neg (by omega)]
    rw [eb]
    exact ⟨⟨rfl, rfl, Nat.zero_le _, fun h => absurd rfl h⟩, rfl⟩
