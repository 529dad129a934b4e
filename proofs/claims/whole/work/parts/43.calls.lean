/-! each of the calls, on both sides -/
theorem mod_lin (n F c M : Nat) : (n % M * F + c) % M = (n * F + c) % M := by
  rw [Nat.add_mod, Nat.mul_mod, Nat.mod_mod, ← Nat.mul_mod, ← Nat.add_mod]
theorem nx_lN (n : Nat) : nxS (lN n) = lN ((n * 25214903917 + 11) % 2 ^ 48) := by
  unfold nxS
  rw [show (281474976710655 : Int64) = lN (2 ^ 48 - 1) from by decide +kernel, show (25214903917 : Int64) = lN 25214903917 from by decide +kernel, show (11 : Int64) = lN 11 from by decide +kernel, lN_mul, lN_add, fb_andL, Nat.and_two_pow_sub_one_eq_mod]
theorem nx_mask (v : Int64) : nxS v = nxS (v &&& 281474976710655) := by
  obtain ⟨n, -, rfl⟩ := wb_of v
  rw [show (281474976710655 : Int64) = lN (2 ^ 48 - 1) from by decide +kernel, fb_andL, Nat.and_two_pow_sub_one_eq_mod, nx_lN, nx_lN, mod_lin]
theorem le_nl {i : Int32} (h : 0 ≤ i) : ¬ i < 0 := by
  rw [fa_le] at h
  rw [fa_lt]
  omega
theorem e01 {v : Int32} (h : 0 ≤ v ∧ v ≤ 1) : v = 0 ∨ v = 1 := by
  obtain ⟨k, hk, rfl⟩ := i_nat (a := 0) (b := 1) (by decide) h.1 h.2 (by decide)
  have : k = 0 ∨ k = 1 := by omega
  rcases this with rfl | rfl
  · exact Or.inl rfl
  · exact Or.inr rfl
theorem B_letters {w : Wd} {S : St} (hX : XI w S) (hM : MI w S) (v : Int32) : BI mX6_letters mX7_letters [.int v] w := by
  by_cases h : 2 ≤ v ∧ v ≤ 4
  · obtain ⟨q, hq, rfl⟩ := i_nat (a := 2) (b := 4) (by decide) h.1 h.2 (by decide)
    exact ⟨_, bo hM (X_let1 hM.1 hX hq) (fun w1 m => M_letters1 m hq)⟩
  · exact ⟨_, bo0 hX hM (X_let0 w h) (M_letters0 w h)⟩
theorem B_word {w : Wd} {S : St} (hX : XI w S) (hM : MI w S) (s n : Int32) (row : Int64) : BI mX6_word mX7_word [.int s, .int n, .long row] w := by
  by_cases h : rOK s ∧ 0 ≤ n ∧ n ≤ 24
  · obtain ⟨s', hs, rfl⟩ := rOK_n h.1
    obtain ⟨n', hn, rfl⟩ := i_nat (a := 0) (b := 24) (by decide) h.2.1 h.2.2 (by decide)
    obtain ⟨x, hx, rfl⟩ := wb_of row
    by_cases hg : wOK S.1 n' x
    · exact ⟨_, bo hM (X_word2 hM.1 hX hs hn.2 hx hg) (fun w1 m => M_word2 m hs hn.2 hx hg)⟩
    · exact ⟨_, bo0 hX hM (X_word1 hM.1 hX hs hn.2 hx hg) (M_word1 hM hs hn.2 hx hg)⟩
  · exact ⟨_, bo0 hX hM (X_word0 w h) (M_word0 w h)⟩
theorem B_at {w : Wd} {S : St} (hX : XI w S) (hM : MI w S) (s i : Int32) : BI mX6_at mX7_at [.int s, .int i] w := by
  by_cases h : rOK s ∧ (-1 : Int32) ≤ i
  · obtain ⟨s', hs, rfl⟩ := rOK_n h.1
    by_cases e : i = -1
    · subst e
      exact ⟨_, bo0 hX hM (X_at1 hX hs) (M_at1 hM hs)⟩
    · have e1 : (-1 : Int32).toInt = -1 := by decide
      have e0 : (0 : Int32).toInt = 0 := by decide
      obtain ⟨j, hj, rfl⟩ := nI_of (x := i) (by
        have h2 := h.2
        rw [fa_le] at h2
        rw [fa_eq] at e
        rw [fa_lt]
        omega)
      exact ⟨_, bo0 hX hM (X_at2 hM.1 hX hs hj) (M_at2 hM hs hj)⟩
  · exact ⟨_, bo0 hX hM (X_at0 w h) (M_at0 w h)⟩
theorem B_edit {w : Wd} {S : St} (hX : XI w S) (hM : MI w S) (s t k i l : Int32) : BI mX6_edit mX7_edit [.int s, .int t, .int k, .int i, .int l] w := by
  by_cases h : rOK s ∧ rOK t
  · obtain ⟨s', hs, rfl⟩ := rOK_n h.1
    obtain ⟨t', ht, rfl⟩ := rOK_n h.2
    by_cases he : eN S.1 (S.2.1 t').length k i l
    · obtain ⟨kd, j, l', rfl, rfl, rfl, hk, hj, hl⟩ := he
      by_cases h1 : kd = 1 ∧ (S.2.1 t').length = 24
      · obtain ⟨rfl, h24⟩ := h1
        rw [if_pos rfl] at hj
        have hl2 : l' < S.1 := hl.resolve_left (by decide)
        exact ⟨_, bo0 hX hM (X_edit2 hM.1 hX hs ht hj hl2 h24) (M_edit2 hM hs ht hj hl2 h24)⟩
      · have h24 : kd = 1 → (S.2.1 t').length < 24 := fun e => by
          have b := (hM.1.2.1 t' ht).1
          have : (S.2.1 t').length ≠ 24 := fun e2 => h1 ⟨e, e2⟩
          omega
        exact ⟨_, bo hM (X_edit3 hM.1 hX hs ht hk hj hl h24) (fun w1 m => M_edit3 m hs ht hk hj hl h24)⟩
    · exact ⟨_, bo0 hX hM (X_edit1 hM.1 hX hs ht he) (M_edit1 hM hs ht he)⟩
  · exact ⟨_, bo0 hX hM (X_edit0 w h) (M_edit0 w h)⟩
theorem B_code {w : Wd} {S : St} (hX : XI w S) (hM : MI w S) (n m a b : Int32) : BI mX6_code mX7_code [.int n, .int m, .int a, .int b] w := by
  by_cases h : kN S.1 n m a b
  · obtain ⟨n', m', a', rfl, rfl, rfl, hn, hm, ha, hb⟩ := h
    exact ⟨_, bo hM (X_code1 hM.1 hX hn hm ha hb) (fun w1 m => M_code1 m hn hm ha hb)⟩
  · exact ⟨_, bo0 hX hM (X_code0 hM.1 hX h) (M_code0 hM h)⟩
theorem B_sum {w : Wd} {S : St} (hX : XI w S) (hM : MI w S) (s : Int32) : BI mX6_sum mX7_sum [.int s] w := by
  by_cases h : rOK s
  · obtain ⟨s', hs, rfl⟩ := rOK_n h
    exact ⟨_, bo0 hX hM (X_sum1 hM.1 hX hs) (M_sum1 hM hs)⟩
  · exact ⟨_, bo0 hX hM (X_sum0 w h) (M_sum0 w h)⟩
theorem B_isOf {w : Wd} {S : St} (hX : XI w S) (hM : MI w S) (s : Int32) : BI mX6_isOf mX7_isOf [.int s] w := by
  by_cases h : rOK s
  · obtain ⟨s', hs, rfl⟩ := rOK_n h
    exact ⟨_, bo0 hX hM (X_isOf1 hM.1 hX hs) (M_isOf1 hM hs)⟩
  · exact ⟨_, bo0 hX hM (X_isOf0 w h) (M_isOf0 w h)⟩
theorem B_listed {w : Wd} {S : St} (hX : XI w S) (hM : MI w S) (s i : Int32) : BI mX6_listed mX7_listed [.int s, .int i] w := by
  by_cases h : rOK s ∧ 0 ≤ i
  · obtain ⟨s', hs, rfl⟩ := rOK_n h.1
    obtain ⟨j, hj, rfl⟩ := nI_of (le_nl h.2)
    by_cases hn : S.2.2.1.1 = 0
    · exact ⟨_, bo0 hX hM (X_list1 hM.1 hX hs hj hn) (M_list1 hM hs hj hn)⟩
    · by_cases hz : j < szN S
      · exact ⟨_, bo hM (X_list3 hM.1 hX hs hn hz) (fun w1 m => M_list3 m hs hn hz)⟩
      · exact ⟨_, bo0 hX hM (X_list2 hM.1 hX hs hj hn (Nat.le_of_not_lt hz)) (M_list2 hM hs hj hn (Nat.le_of_not_lt hz))⟩
  · exact ⟨_, bo0 hX hM (X_list0 w h) (M_list0 w h)⟩
theorem B_mend {w : Wd} {S : St} (hX : XI w S) (hM : MI w S) (s t : Int32) : BI mX6_mend mX7_mend [.int s, .int t] w := by
  by_cases h : rOK s ∧ rOK t
  · obtain ⟨s', hs, rfl⟩ := rOK_n h.1
    obtain ⟨t', ht, rfl⟩ := rOK_n h.2
    by_cases hn : S.2.2.1.1 = 0
    · exact ⟨_, bo0 hX hM (X_mend1 hM.1 hX hs ht hn) (M_mend1 hM hs ht hn)⟩
    · by_cases hm : isM (mdS S 0) (S.2.1 t')
      · exact ⟨_, bo hM (X_mend2 hM.1 hX hs ht hn hm) (fun w1 m => M_mend2 m hs ht hn hm)⟩
      · by_cases hl : (lwA (mdS S 0) (S.2.1 t')).length = 1
        · obtain ⟨v, hv⟩ := List.length_eq_one_iff.mp hl
          exact ⟨_, bo hM ((X_mend3 hM.1 hX hs ht hn hm).2 v hv) (fun w1 m => (M_mend3 m hs ht hn hm).2 v hv)⟩
        · exact ⟨_, bo hM ((X_mend3 hM.1 hX hs ht hn hm).1 hl) (fun w1 m => (M_mend3 m hs ht hn hm).1 hl)⟩
  · exact ⟨_, bo0 hX hM (X_mend0 w h) (M_mend0 w h)⟩
theorem B_near {w : Wd} {S : St} (hX : XI w S) (hM : MI w S) (t : Int32) : BI mX6_near mX7_near [.int t] w := by
  by_cases h : rOK t
  · obtain ⟨t', ht, rfl⟩ := rOK_n h
    by_cases hn : S.2.2.1.1 = 0
    · exact ⟨_, bo0 hX hM (X_near1 hM.1 hX ht hn) (M_near1 hM ht hn)⟩
    · exact ⟨_, bo hM (X_near2 hM.1 hX ht hn) (fun w1 m => M_near2 m ht hn)⟩
  · exact ⟨_, bo0 hX hM (X_near0 w h) (M_near0 w h)⟩
theorem B_liesIn {w : Wd} {S : St} (hX : XI w S) (hM : MI w S) (s t : Int32) : BJ mX6_liesIn mX7_liesIn [.int s, .int t] w := by
  by_cases h : rOK s ∧ rOK t
  · obtain ⟨s', hs, rfl⟩ := rOK_n h.1
    obtain ⟨t', ht, rfl⟩ := rOK_n h.2
    exact ⟨_, bo hM (X_lies1 hM.1 hX hs ht) (fun w1 m => by
      obtain ⟨g, w2, C, F, M⟩ := M_lies1 m hs ht
      rw [lyO_0 (hM.1.w ht).1] at C
      exact ⟨w2, C, F, M⟩)⟩
  · exact ⟨_, bo0 hX hM (X_lies0 w h) (M_lies0 w h)⟩
theorem B_common {w : Wd} {S : St} (hX : XI w S) (hM : MI w S) (s t u : Int32) : BI mX6_common mX7_common [.int s, .int t, .int u] w := by
  by_cases h : rOK s ∧ rOK t ∧ rOK u
  · obtain ⟨s', hs, rfl⟩ := rOK_n h.1
    obtain ⟨t', ht, rfl⟩ := rOK_n h.2.1
    obtain ⟨u', hu, rfl⟩ := rOK_n h.2.2
    exact ⟨_, bo hM (X_com1 hM.1 hX hs ht hu) (fun w1 m => M_com1 m hs ht hu)⟩
  · exact ⟨_, bo0 hX hM (X_com0 w h) (M_com0 w h)⟩
theorem B_commons {w : Wd} {S : St} (hX : XI w S) (hM : MI w S) (t u : Int32) : BJ mX6_commons mX7_commons [.int t, .int u] w := by
  by_cases h : rOK t ∧ rOK u
  · obtain ⟨t', ht, rfl⟩ := rOK_n h.1
    obtain ⟨u', hu, rfl⟩ := rOK_n h.2
    exact ⟨_, bo hM (X_cms1 hM.1 hX ht hu (fun _ => 0)) (fun w1 m => by
      obtain ⟨g, w2, C, F, M⟩ := M_cms1 m ht hu
      have b1 := (hM.1.w ht).1
      have b2 := (hM.1.w hu).1
      rw [(hm_cm b1 b2 (fun _ => 0) S.1 (fun _ => 0) g).symm.trans (hm_cm b1 b2 (fun _ => 0) S.1 (fun _ => 0) (fun _ => 0))] at C
      exact ⟨w2, C, F, M⟩)⟩
  · exact ⟨_, bo0 hX hM (X_cms0 w h) (M_cms0 w h)⟩
theorem B_between {w : Wd} {S : St} (hX : XI w S) (hM : MI w S) (t u v : Int32) : BI mX6_between mX7_between [.int t, .int u, .int v] w := by
  by_cases h : rOK t ∧ rOK u ∧ (0 ≤ v ∧ v ≤ 1)
  · obtain ⟨t', ht, rfl⟩ := rOK_n h.1
    obtain ⟨u', hu, rfl⟩ := rOK_n h.2.1
    rcases e01 h.2.2 with rfl | rfl
    · exact ⟨_, bo hM (X_betw1 hM.1 hX ht hu) (fun w1 m => by
        obtain ⟨g, w2, C, F, M⟩ := M_betw1 m ht hu
        rw [meO_v (hM.1.w ht).1 (hM.1.w hu).1] at C
        exact ⟨w2, C, F, M⟩)⟩
    · exact ⟨_, bo hM (X_betw2 hM.1 hX ht hu) (fun w1 m => M_betw2 m ht hu)⟩
  · exact ⟨_, bo0 hX hM (X_betw0 w h) (M_betw0 w h)⟩
theorem B_by {w : Wd} {S : St} (hX : XI w S) (hM : MI w S) (t n v : Int32) : BJ mX6_by mX7_by [.int t, .int n, .int v] w := by
  by_cases h : rOK t ∧ (0 ≤ n ∧ n ≤ 6) ∧ (0 ≤ v ∧ v ≤ 1)
  · obtain ⟨t', ht, rfl⟩ := rOK_n h.1
    obtain ⟨n', hn, rfl⟩ := i_nat (a := 0) (b := 6) (by decide) h.2.1.1 h.2.1.2 (by decide)
    rcases e01 h.2.2 with rfl | rfl
    · exact ⟨_, bo hM (X_by2 hM.1 hX ht hn.2) (fun w1 m => by
        obtain ⟨g, w2, C, F, M⟩ := M_by2 m ht hn.2
        rw [pt_v (show (S.2.1 t').length - n' ≤ 24 by have := (hM.1.w ht).1; omega)] at C
        exact ⟨w2, C, F, M⟩)⟩
    · exact ⟨_, bo0 hX hM (X_by1 hM.1 hX ht hn.2) (M_by1 hM ht hn.2)⟩
  · exact ⟨_, bo0 hX hM (X_by0 w h) (M_by0 w h)⟩
theorem B_trace {w : Wd} {S : St} (hX : XI w S) (hM : MI w S) (s : Int32) : BI mX6_trace mX7_trace [.int s] w := by
  by_cases h : rOK s
  · obtain ⟨s', hs, rfl⟩ := rOK_n h
    by_cases h8 : S.2.2.2.1.1 = 8
    · exact ⟨_, bo0 hX hM (X_tr1 hX hs h8) (M_trace1 hM hs h8)⟩
    · have h9 : S.2.2.2.1.1 < 8 := by have := hM.1.2.2.2.1.1; omega
      exact ⟨_, bo hM (X_tr2 hX hs h9) (fun w1 m => M_trace2 m hs h9)⟩
  · exact ⟨_, bo0 hX hM (X_tr0 w h) (M_trace0 w h)⟩
theorem B_noTraces {w : Wd} {S : St} (hX : XI w S) (hM : MI w S) : BI mX6_noTraces mX7_noTraces [] w := ⟨_, bo hM (X_noT hX) (fun w1 m => M_noT m)⟩
theorem B_sources {w : Wd} {S : St} (hX : XI w S) (hM : MI w S) (n : Int32) : BI mX6_sources mX7_sources [.int n] w := by
  obtain ⟨K, hK⟩ : ∃ K, K = 1000000000000000 := ⟨_, rfl⟩
  by_cases h : sOK S.1 n
  · obtain ⟨n', rfl, h1, h2, h3⟩ := h
    exact ⟨_, bo hM (X_src1 hM.1 hX h1 h2 h3 hK) (fun w1 m => M_src1 m h1 h2 h3 hK)⟩
  · exact ⟨_, bo0 hX hM (X_src0 hM.1 hX h) (M_src0 hM h)⟩
theorem B_best {w : Wd} {S : St} (hX : XI w S) (hM : MI w S) (s n : Int32) : BI mX6_best mX7_best [.int s, .int n] w := by
  obtain ⟨K, hK⟩ : ∃ K, K = 1000000000000000 := ⟨_, rfl⟩
  by_cases h : rOK s ∧ sOK S.1 n
  · obtain ⟨s', hs, rfl⟩ := rOK_n h.1
    obtain ⟨n', rfl, h1, h2, h3⟩ := h.2
    exact ⟨_, bo hM (X_best1 hM.1 hX hs h1 h2 h3 hK) (fun w1 m => M_best1 m hs h1 h2 h3 hK)⟩
  · exact ⟨_, bo0 hX hM (X_best0 hM.1 hX h) (M_best0 hM h)⟩
theorem B_line {w : Wd} {S : St} (hX : XI w S) (hM : MI w S) (a b c : Int32) : BI mX6_line mX7_line [.int a, .int b, .int c] w := by
  by_cases h : lOK a b c
  · obtain ⟨x, y, z, rfl, rfl, rfl, h64⟩ := lOK_n h
    exact ⟨_, bo hM (X_line1 hM.1 hX h64) (fun w1 m => M_line1 m h64)⟩
  · exact ⟨_, bo0 hX hM (X_line0 w h) (M_line0 w h)⟩
theorem B_seed {w : Wd} {S : St} (hX : XI w S) (hM : MI w S) (v : Int64) : BI mX6_seed mX7_seed [.long v] w := by
  by_cases h : v < 0
  · exact ⟨_, bo0 hX hM (X_seed0 w h) (M_seed0 w h)⟩
  · have hn := nx_mask v
    generalize hv : v &&& 281474976710655 = v2 at hn
    exact ⟨_, bo hM (X_seed1 hM.1 hX v2 h) (fun w1 m => M_seed1 m h hv hn)⟩
theorem B_send {w : Wd} {S : St} (hX : XI w S) (hM : MI w S) (s t : Int32) : BI mX6_send mX7_send [.int s, .int t] w := by
  by_cases h : rOK s ∧ rOK t
  · obtain ⟨s', hs, rfl⟩ := rOK_n h.1
    obtain ⟨t', ht, rfl⟩ := rOK_n h.2
    by_cases hf : (snV S t' S.2.2.2.2.2.2).2.length ≤ 24
    · exact ⟨_, bo hM (X_send2 hM.1 hX hs ht hf) (fun w1 m => M_send2 m hs ht hf)⟩
    · exact ⟨_, bo hM (X_send1 hM.1 hX hs ht (Nat.lt_of_not_le hf)) (fun w1 m => M_send1 m hs ht (Nat.lt_of_not_le hf))⟩
  · exact ⟨_, bo0 hX hM (X_send0 w h) (M_send0 w h)⟩
theorem B_count {w : Wd} {S : St} (hX : XI w S) (hM : MI w S) (v : Int32) : BI mX6_count mX7_count [.int v] w := ⟨_, bo0 hX hM (X_count hX v) (M_count hM v)⟩
