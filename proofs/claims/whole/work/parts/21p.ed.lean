/-! the model's edits, as lists -/
theorem drop_cons {u : List Nat} {k : Nat} (h : k < u.length) : u.drop k = u.getD k 0 :: u.drop (k + 1) := by
  rw [List.drop_eq_getElem_cons h]
  simp [List.getD_eq_getElem?_getD, h]
theorem edL_past (u : List Nat) (kind i l : Nat) : ∀ (c k : Nat) (acc : List Nat), k + c = u.length + 1 → i < k → edL u kind i l c k acc = acc ++ u.drop k
  | 0, k, acc, hk, hi => by rw [edL, List.drop_eq_nil_of_le (by omega), List.append_nil]
  | c + 1, k, acc, hk, hi => by
    rw [edL, if_neg (show ¬ (k = i ∧ 0 < kind) by omega)]
    by_cases hk2 : k < u.length
    · rw [if_pos ⟨hk2, Or.inl (by omega)⟩, edL_past u kind i l c (k + 1) _ (by omega) (by omega), drop_cons hk2, List.append_assoc]
      rfl
    · rw [if_neg (fun e => hk2 e.1), edL_past u kind i l c (k + 1) _ (by omega) (by omega), List.drop_eq_nil_of_le (by omega), List.drop_eq_nil_of_le (by omega)]
theorem edL_0 (u : List Nat) (i l : Nat) (hi : i < u.length) : ∀ (c k : Nat) (acc : List Nat), k + c = u.length + 1 → k ≤ i → edL u 0 i l c k acc = acc ++ (u.drop k).eraseIdx (i - k)
  | 0, k, acc, hk, hki => by omega
  | c + 1, k, acc, hk, hki => by
    have hk2 : k < u.length := by omega
    rw [edL, if_neg (show ¬ (k = i ∧ 0 < 0) by omega), drop_cons hk2]
    by_cases he : k = i
    · rw [if_neg (by omega), edL_past u 0 i l c (k + 1) _ (by omega) (by omega), he, Nat.sub_self]
      rfl
    · rw [if_pos ⟨hk2, Or.inl he⟩, edL_0 u i l hi c (k + 1) _ (by omega) (by omega), show i - k = (i - (k + 1)) + 1 by omega, List.eraseIdx_cons_succ, List.append_assoc]
      rfl
theorem edL_1 (u : List Nat) (i l : Nat) (hi : i ≤ u.length) : ∀ (c k : Nat) (acc : List Nat), k + c = u.length + 1 → k ≤ i → edL u 1 i l c k acc = acc ++ (u.drop k).insertIdx (i - k) l
  | 0, k, acc, hk, hki => by omega
  | c + 1, k, acc, hk, hki => by
    rw [edL]
    by_cases he : k = i
    · rw [if_pos (show k = i ∧ 0 < 1 by omega), he, Nat.sub_self, List.insertIdx_zero]
      by_cases hk2 : i < u.length
      · rw [if_pos ⟨hk2, Or.inr rfl⟩, edL_past u 1 i l c (i + 1) _ (by omega) (by omega), drop_cons hk2, List.append_assoc, List.append_assoc]
        rfl
      · rw [if_neg (fun e => hk2 e.1), edL_past u 1 i l c (i + 1) _ (by omega) (by omega), List.drop_eq_nil_of_le (show u.length ≤ i + 1 by omega), List.drop_eq_nil_of_le (show u.length ≤ i by omega), List.append_nil]
    · have hk2 : k < u.length := by omega
      rw [if_neg (show ¬ (k = i ∧ 0 < 1) by omega), if_pos ⟨hk2, Or.inl he⟩, edL_1 u i l hi c (k + 1) _ (by omega) (by omega), drop_cons hk2, show i - k = (i - (k + 1)) + 1 by omega, List.insertIdx_succ_cons, List.append_assoc]
      rfl
theorem edL_2 (u : List Nat) (i l : Nat) (hi : i < u.length) : ∀ (c k : Nat) (acc : List Nat), k + c = u.length + 1 → k ≤ i → edL u 2 i l c k acc = acc ++ (u.drop k).set (i - k) l
  | 0, k, acc, hk, hki => by omega
  | c + 1, k, acc, hk, hki => by
    have hk2 : k < u.length := by omega
    rw [edL, drop_cons hk2]
    by_cases he : k = i
    · rw [if_pos (show k = i ∧ 0 < 2 by omega), if_neg (by omega), edL_past u 2 i l c (k + 1) _ (by omega) (by omega), he, Nat.sub_self, List.append_assoc]
      rfl
    · rw [if_neg (show ¬ (k = i ∧ 0 < 2) by omega), if_pos ⟨hk2, Or.inl he⟩, edL_2 u i l hi c (k + 1) _ (by omega) (by omega), show i - k = (i - (k + 1)) + 1 by omega, List.set_cons_succ, List.append_assoc]
      rfl
abbrev edW (u : List Nat) (kind i l : Nat) : List Nat := edL u kind i l (u.length + 1) 0 []
theorem edW_0 {u : List Nat} {i : Nat} (l : Nat) (hi : i < u.length) : edW u 0 i l = u.eraseIdx i := by
  have := edL_0 u i l hi (u.length + 1) 0 [] (by omega) (by omega)
  simpa using this
theorem edW_1 {u : List Nat} {i : Nat} (l : Nat) (hi : i ≤ u.length) : edW u 1 i l = u.insertIdx i l := by
  have := edL_1 u i l hi (u.length + 1) 0 [] (by omega) (by omega)
  simpa using this
theorem edW_2 {u : List Nat} {i : Nat} (l : Nat) (hi : i < u.length) : edW u 2 i l = u.set i l := by
  have := edL_2 u i l hi (u.length + 1) 0 [] (by omega) (by omega)
  simpa using this
theorem edW_ok {u : List Nat} (ok : okL u) {kind i l : Nat} (hk : kind ≤ 2) (hi : if kind = 1 then i ≤ u.length else i < u.length) (hl : l < 4) : okL (edW u kind i l) ∧ (edW u kind i l).length ≤ u.length + 1 := by
  have h012 : kind = 0 ∨ kind = 1 ∨ kind = 2 := by omega
  rcases h012 with rfl | rfl | rfl
  · rw [if_neg (by decide)] at hi
    rw [edW_0 l hi]
    exact ⟨fun a ha => ok a (List.mem_of_mem_eraseIdx ha), Nat.le_trans (List.length_eraseIdx_le u i) (by omega)⟩
  · rw [if_pos rfl] at hi
    rw [edW_1 l hi]
    refine ⟨fun a ha => ?_, by rw [List.length_insertIdx_of_le_length hi]; omega⟩
    rcases (List.mem_insertIdx hi).mp ha with h9 | h9
    · omega
    · exact ok a h9
  · rw [if_neg (by decide)] at hi
    rw [edW_2 l hi]
    refine ⟨fun a ha => ?_, by rw [List.length_set]; omega⟩
    rcases List.mem_or_eq_of_mem_set ha with h9 | h9
    · exact ok a h9
    · omega
