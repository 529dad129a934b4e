/-! tables that are filled backwards: what stands in a cell at the end -/
def tbI {α : Type} (V : (Nat → α) → Nat → Nat → α) (ix : Nat → Nat → Nat) (i : Nat) : Nat → (Nat → α) → Nat → α
  | 0, f => f
  | k + 1, f => tbI V ix i k (va_up f (ix i k) (V f i k))
def tbO {α : Type} (V : (Nat → α) → Nat → Nat → α) (ix : Nat → Nat → Nat) (M : Nat) : Nat → (Nat → α) → Nat → α
  | 0, f => f
  | k + 1, f => tbO V ix M k (tbI V ix k M f)
def ixJ (ix : Nat → Nat → Nat) (N M : Nat) : Prop := ∀ i j i' j', i < N → j < M → i' < N → j' < M → ix i j = ix i' j' → i = i' ∧ j = j'
theorem tbI_keep {α : Type} {V : (Nat → α) → Nat → Nat → α} {ix : Nat → Nat → Nat} {N M : Nat} (hx : ixJ ix N M) {i : Nat} (hi : i < N) : ∀ (k : Nat) (f : Nat → α) (i' j' : Nat), k ≤ M → i' < N → j' < M → (i' ≠ i ∨ k ≤ j') → tbI V ix i k f (ix i' j') = f (ix i' j')
  | 0, f, i', j', _, _, _, _ => rfl
  | k + 1, f, i', j', hk, hi', hj', h => by
    rw [tbI, tbI_keep hx hi k _ i' j' (by omega) hi' hj' (by omega), up_ne]
    intro e
    have := hx i' j' i k hi' hj' hi (by omega) e
    omega
theorem tbI_val {α : Type} {V : (Nat → α) → Nat → Nat → α} {ix : Nat → Nat → Nat} {N M : Nat} (hx : ixJ ix N M) {i : Nat} (hi : i < N) : ∀ (k : Nat) (f : Nat → α) (j : Nat), k ≤ M → j < k → ∃ f' : Nat → α, tbI V ix i k f (ix i j) = V f' i j ∧ ∀ i' j', i' < N → j' < M → (i' ≠ i ∨ j < j') → f' (ix i' j') = tbI V ix i k f (ix i' j')
  | 0, f, j, _, h => by omega
  | k + 1, f, j, hk, hj => by
    by_cases e : j = k
    · subst e
      refine ⟨f, ?_, fun i' j' hi' hj' h => ?_⟩
      · rw [tbI, tbI_keep hx hi j _ i j (by omega) hi (by omega) (Or.inr (Nat.le_refl _)), up_eq]
      · rw [tbI, tbI_keep hx hi j _ i' j' (by omega) hi' hj' (by omega), up_ne]
        intro e
        have := hx i' j' i j hi' hj' hi (by omega) e
        omega
    · exact tbI_val hx hi k (va_up f (ix i k) (V f i k)) j (by omega) (by omega)
theorem tbO_keep {α : Type} {V : (Nat → α) → Nat → Nat → α} {ix : Nat → Nat → Nat} {N M : Nat} (hx : ixJ ix N M) : ∀ (k : Nat) (f : Nat → α) (i' j' : Nat), k ≤ N → i' < N → j' < M → k ≤ i' → tbO V ix M k f (ix i' j') = f (ix i' j')
  | 0, f, i', j', _, _, _, _ => rfl
  | k + 1, f, i', j', hk, hi', hj', h => by
    rw [tbO, tbO_keep hx k _ i' j' (by omega) hi' hj' (by omega), tbI_keep hx (by omega) M f i' j' (Nat.le_refl _) hi' hj' (by omega)]
theorem tbO_val {α : Type} {V : (Nat → α) → Nat → Nat → α} {ix : Nat → Nat → Nat} {N M : Nat} (hx : ixJ ix N M) : ∀ (k : Nat) (f : Nat → α) (i j : Nat), k ≤ N → i < k → j < M → ∃ f' : Nat → α, tbO V ix M k f (ix i j) = V f' i j ∧ ∀ i' j', i' < N → j' < M → (i < i' ∧ i' < k ∨ i' = i ∧ j < j' ∨ k ≤ i') → f' (ix i' j') = tbO V ix M k f (ix i' j')
  | 0, f, i, j, _, h, _ => by omega
  | k + 1, f, i, j, hk, hi, hj => by
    by_cases e : i = k
    · subst e
      obtain ⟨f', h1, h2⟩ := tbI_val (V := V) hx (show i < N by omega) M f j (Nat.le_refl _) hj
      refine ⟨f', ?_, fun i' j' hi' hj' h => ?_⟩
      · rw [tbO, tbO_keep hx i _ i j (by omega) (by omega) hj (Nat.le_refl _), h1]
      · rw [tbO, tbO_keep hx i _ i' j' (by omega) hi' hj' (by omega)]
        exact h2 i' j' hi' hj' (by omega)
    · obtain ⟨f', h1, h2⟩ := tbO_val hx k (tbI V ix k M f) i j (by omega) (by omega) hj
      exact ⟨f', h1, fun i' j' hi' hj' h => h2 i' j' hi' hj' (by omega)⟩
/-- the table has the values g, if each comes of the later ones -/
theorem tab {α : Type} {V : (Nat → α) → Nat → Nat → α} {ix : Nat → Nat → Nat} {N M : Nat} (hx : ixJ ix N M) (g : Nat → Nat → α)
    (step : ∀ (f : Nat → α) (i j : Nat), i < N → j < M → (∀ i' j', i' < N → j' < M → (i < i' ∨ i' = i ∧ j < j') → f (ix i' j') = g i' j') → V f i j = g i j) (f : Nat → α) :
    ∀ (i j : Nat), i < N → j < M → tbO V ix M N f (ix i j) = g i j := by
  have key : ∀ (a b i j : Nat), N - i = a → M - j = b → i < N → j < M → tbO V ix M N f (ix i j) = g i j := by
    intro a
    induction a using Nat.strongRecOn with
    | ind a iha =>
      intro b
      induction b using Nat.strongRecOn with
      | ind b ihb =>
        intro i j ha hb hi hj
        obtain ⟨f', h1, h2⟩ := tbO_val (V := V) hx N f i j (Nat.le_refl _) hi hj
        rw [h1]
        refine step f' i j hi hj (fun i' j' hi' hj' h => ?_)
        rw [h2 i' j' hi' hj' (by omega)]
        rcases h with h | ⟨h, h3⟩
        · exact iha (N - i') (by omega) (M - j') i' j' rfl rfl hi' hj'
        · subst h
          exact ihb (M - j') (by omega) i' j' ha rfl hi' hj'
  intro i j hi hj
  exact key _ _ i j rfl rfl hi hj
/-- two tables side by side -/
theorem tab2 {α : Type} {V V2 : (Nat → α) → Nat → Nat → α} {ix ix2 : Nat → Nat → Nat} {N M : Nat} (hx : ixJ ix N M) (hx2 : ixJ ix2 N M)
    (step : ∀ (f f2 : Nat → α) (i j : Nat), i < N → j < M → (∀ i' j', i' < N → j' < M → (i < i' ∨ i' = i ∧ j < j') → f (ix i' j') = f2 (ix2 i' j')) → V f i j = V2 f2 i j) (f f2 : Nat → α) :
    ∀ (i j : Nat), i < N → j < M → tbO V ix M N f (ix i j) = tbO V2 ix2 M N f2 (ix2 i j) := by
  refine tab hx (fun i j => tbO V2 ix2 M N f2 (ix2 i j)) (fun f i j hi hj h => ?_) f
  obtain ⟨f', h1, h2⟩ := tbO_val (V := V2) hx2 N f2 i j (Nat.le_refl _) hi hj
  rw [h1]
  refine step f f' i j hi hj (fun i' j' hi' hj' h3 => ?_)
  rw [h i' j' hi' hj' h3, h2 i' j' hi' hj' (by omega)]
/-! rows that are filled forwards, each of the rows behind it -/
def tcI {α : Type} (V : (Nat → α) → Nat → Nat → α) (ix : Nat → Nat → Nat) (i : Nat) : Nat → Nat → (Nat → α) → Nat → α
  | 0, _, f => f
  | c + 1, k, f => tcI V ix i c (k + 1) (va_up f (ix i k) (V f i k))
def tcO {α : Type} (V : (Nat → α) → Nat → Nat → α) (ix : Nat → Nat → Nat) (M : Nat) : Nat → (Nat → α) → Nat → α
  | 0, f => f
  | k + 1, f => tcO V ix M k (tcI V ix k M 0 f)
theorem tcI_keep {α : Type} {V : (Nat → α) → Nat → Nat → α} {ix : Nat → Nat → Nat} {N M : Nat} (hx : ixJ ix N M) {i : Nat} (hi : i < N) : ∀ (c k : Nat) (f : Nat → α) (i' j' : Nat), k + c ≤ M → i' < N → j' < M → (i' ≠ i ∨ j' < k) → tcI V ix i c k f (ix i' j') = f (ix i' j')
  | 0, k, f, i', j', _, _, _, _ => rfl
  | c + 1, k, f, i', j', hk, hi', hj', h => by
    rw [tcI, tcI_keep hx hi c (k + 1) _ i' j' (by omega) hi' hj' (by omega), up_ne]
    intro e
    have := hx i' j' i k hi' hj' hi (by omega) e
    omega
theorem tcI_val {α : Type} {V : (Nat → α) → Nat → Nat → α} {ix : Nat → Nat → Nat} {N M : Nat} (hx : ixJ ix N M) {i : Nat} (hi : i < N) : ∀ (c k : Nat) (f : Nat → α) (j : Nat), k + c ≤ M → k ≤ j → j < k + c → ∃ f' : Nat → α, tcI V ix i c k f (ix i j) = V f' i j ∧ ∀ i' j', i' < N → j' < M → i' ≠ i → f' (ix i' j') = f (ix i' j')
  | 0, k, f, j, _, h, h2 => by omega
  | c + 1, k, f, j, hk, hj, hj2 => by
    by_cases e : j = k
    · subst e
      refine ⟨f, ?_, fun i' j' hi' hj' h => rfl⟩
      rw [tcI, tcI_keep hx hi c (j + 1) _ i j (by omega) hi (by omega) (Or.inr (by omega)), up_eq]
    · obtain ⟨f', h1, h2⟩ := tcI_val hx hi c (k + 1) (va_up f (ix i k) (V f i k)) j (by omega) (by omega) (by omega)
      refine ⟨f', h1, fun i' j' hi' hj' h => ?_⟩
      rw [h2 i' j' hi' hj' h, up_ne]
      intro e
      have := hx i' j' i k hi' hj' hi (by omega) e
      omega
theorem tcO_keep {α : Type} {V : (Nat → α) → Nat → Nat → α} {ix : Nat → Nat → Nat} {N M : Nat} (hx : ixJ ix N M) : ∀ (k : Nat) (f : Nat → α) (i' j' : Nat), k ≤ N → i' < N → j' < M → k ≤ i' → tcO V ix M k f (ix i' j') = f (ix i' j')
  | 0, f, i', j', _, _, _, _ => rfl
  | k + 1, f, i', j', hk, hi', hj', h => by
    rw [tcO, tcO_keep hx k _ i' j' (by omega) hi' hj' (by omega), tcI_keep hx (by omega) M 0 f i' j' (by omega) hi' hj' (by omega)]
theorem tac {α : Type} {V : (Nat → α) → Nat → Nat → α} {ix : Nat → Nat → Nat} {N M : Nat} (hx : ixJ ix N M) (g : Nat → Nat → α)
    (step : ∀ (f : Nat → α) (i j : Nat), i < N → j < M → (∀ i' j', i' < N → j' < M → i < i' → f (ix i' j') = g i' j') → V f i j = g i j) :
    ∀ (k : Nat) (f : Nat → α), k ≤ N → (∀ i' j', i' < N → j' < M → k ≤ i' → f (ix i' j') = g i' j') → ∀ i j, i < N → j < M → tcO V ix M k f (ix i j) = g i j
  | 0, f, _, h => fun i j hi hj => h i j hi hj (by omega)
  | k + 1, f, hk, h => by
    intro i j hi hj
    rw [tcO]
    refine tac hx g step k _ (by omega) (fun i' j' hi' hj' hki => ?_) i j hi hj
    by_cases e : i' = k
    · subst e
      obtain ⟨f', h1, h2⟩ := tcI_val (V := V) hx (show i' < N by omega) M 0 f j' (by omega) (by omega) (by omega)
      rw [h1]
      refine step f' i' j' hi' hj' (fun i2 j2 hi2 hj2 hlt => ?_)
      rw [h2 i2 j2 hi2 hj2 (by omega)]
      exact h i2 j2 hi2 hj2 (by omega)
    · rw [tcI_keep hx (by omega) M 0 f i' j' (by omega) hi' hj' (Or.inl e)]
      exact h i' j' hi' hj' (by omega)
theorem ix25 (N M : Nat) (hM : M ≤ 25) : ixJ (fun i j => i * 25 + j) N M := fun i j i' j' _ h1 _ h2 e => by
  have e : i * 25 + j = i' * 25 + j' := e
  omega
theorem ix30 (N M : Nat) (hM : M ≤ 30) : ixJ (fun i j => 30 * i + j) N M := fun i j i' j' _ h1 _ h2 e => by
  have e : 30 * i + j = 30 * i' + j' := e
  omega
theorem ix7 (N M : Nat) (hM : M ≤ 7) : ixJ (fun i j => i * 7 + j) N M := fun i j i' j' _ h1 _ h2 e => by
  have e : i * 7 + j = i' * 7 + j' := e
  omega
