/-! pasted from the kit: laws/BITS, COUNTS, NUMBERS -/
theorem fa_lt (a b : Int32) : a < b ↔ a.toInt < b.toInt := Int32.lt_iff_toInt_lt
theorem fa_le (a b : Int32) : a ≤ b ↔ a.toInt ≤ b.toInt := Int32.le_iff_toInt_le
theorem fa_eq (a b : Int32) : a = b ↔ a.toInt = b.toInt := Int32.toInt_inj.symm
theorem fa_lt64 (a b : Int64) : a < b ↔ a.toInt < b.toInt := Int64.lt_iff_toInt_lt
theorem fa_le64 (a b : Int64) : a ≤ b ↔ a.toInt ≤ b.toInt := Int64.le_iff_toInt_le
theorem fa_eq64 (a b : Int64) : a = b ↔ a.toInt = b.toInt := Int64.toInt_inj.symm
theorem fa_wide_lt (a b : Int32) : a.toInt64 < b.toInt64 ↔ a < b := by rw [fa_lt64, fa_lt, Int32.toInt_toInt64, Int32.toInt_toInt64]
theorem fa_wide_le (a b : Int32) : a.toInt64 ≤ b.toInt64 ↔ a ≤ b := by rw [fa_le64, fa_le, Int32.toInt_toInt64, Int32.toInt_toInt64]
theorem fa_wide_eq (a b : Int32) : a.toInt64 = b.toInt64 ↔ a = b := by rw [fa_eq64, fa_eq, Int32.toInt_toInt64, Int32.toInt_toInt64]
theorem fa_lit (n : Nat) : (OfNat.ofNat n : Int32) = nI n := rfl
theorem fa_litL (n : Nat) : (OfNat.ofNat n : Int64) = lN n := rfl
theorem fa_and (a b : Nat) : nI a &&& nI b = nI (a &&& b) := by
  apply Int32.toBitVec_inj.1
  show BitVec.ofNat 32 a &&& BitVec.ofNat 32 b = BitVec.ofNat 32 (a &&& b)
  apply BitVec.eq_of_getLsbD_eq
  intro i hi
  simp [hi]
theorem fa_mask (n k : Nat) : nI n &&& nI (2 ^ k - 1) = nI (n % 2 ^ k) := by rw [fa_and, Nat.and_two_pow_sub_one_eq_mod]
theorem wb_tb (n : Nat) : (lN n).toBitVec = BitVec.ofNat 64 n := rfl
theorem wb_inj {a b : Int64} (h : a.toBitVec = b.toBitVec) : a = b := Int64.toBitVec_inj.mp h
theorem wb_tn {n : Nat} (h : n < 2 ^ 64) : (lN n).toBitVec.toNat = n := by rw [wb_tb, BitVec.toNat_ofNat, Nat.mod_eq_of_lt h]
theorem wb_of (x : Int64) : ∃ n, n < 2 ^ 64 ∧ x = lN n := ⟨x.toBitVec.toNat, x.toBitVec.isLt, wb_inj (by rw [wb_tb]; simp)⟩
theorem wb_of32 (x : Int32) : ∃ n, n < 2 ^ 32 ∧ x = nI n := ⟨x.toBitVec.toNat, x.toBitVec.isLt, Int32.toBitVec_inj.mp (by show _ = BitVec.ofNat 32 _; simp)⟩
theorem wb_c : ∀ k, k < 64 → ((nI k).toInt64 &&& 63) = lN k := by decide +kernel
theorem wb_cu : ∀ k, k < 64 → ((nI k).toInt64.toUInt64 &&& Int64.toUInt64 63) = UInt64.ofNat k := by decide +kernel
theorem wb_sm : ∀ k, k < 64 → (BitVec.ofNat 64 k).smod 64 = BitVec.ofNat 64 k := by decide +kernel
theorem wb_pw {a b : Nat} (h : a ≤ b) : 2 ^ b = 2 ^ a * 2 ^ (b - a) := by rw [← Nat.pow_add]; congr 1; omega
theorem wb_lt2 {a b : Nat} (h : a < b) : 2 ^ a < 2 ^ b := Nat.pow_lt_pow_right (by decide) h
theorem wb_mod (n : Nat) : lN n = lN (n % 2 ^ 64) := wb_inj (by rw [wb_tb, wb_tb]; apply BitVec.eq_of_toNat_eq; rw [BitVec.toNat_ofNat, BitVec.toNat_ofNat, Nat.mod_mod])
theorem wb_shr {n k : Nat} (hn : n < 2 ^ 64) (hk : k < 64) : ((lN n).toUInt64 >>> ((nI k).toInt64.toUInt64 &&& Int64.toUInt64 63)).toInt64 = lN (n / 2 ^ k) := by
  rw [wb_cu k hk]
  apply wb_inj
  apply BitVec.eq_of_toNat_eq
  show ((lN n).toUInt64 >>> UInt64.ofNat k).toNat = (BitVec.ofNat 64 _).toNat
  have h1 : (UInt64.ofNat k).toNat = k := by
    show (BitVec.ofNat 64 k).toNat = k
    rw [BitVec.toNat_ofNat, Nat.mod_eq_of_lt (by omega)]
  have h2 : (lN n).toUInt64.toNat = n := wb_tn hn
  rw [UInt64.toNat_shiftRight, h1, h2, Nat.mod_eq_of_lt hk, Nat.shiftRight_eq_div_pow, BitVec.toNat_ofNat, Nat.mod_eq_of_lt (Nat.lt_of_le_of_lt (Nat.div_le_self _ _) hn)]
theorem wb_shl (n : Nat) {k : Nat} (hk : k < 64) : lN n <<< ((nI k).toInt64 &&& 63) = lN (n * 2 ^ k) := by
  rw [wb_c k hk]
  apply wb_inj
  rw [Int64.toBitVec_shiftLeft, wb_tb, wb_tb, wb_tb, wb_sm k hk]
  apply BitVec.eq_of_toNat_eq
  rw [BitVec.shiftLeft_eq', BitVec.toNat_shiftLeft, BitVec.toNat_ofNat, BitVec.toNat_ofNat, BitVec.toNat_ofNat, Nat.mod_eq_of_lt (show k < 2 ^ 64 by omega), Nat.shiftLeft_eq, Nat.mul_mod, Nat.mod_mod, ← Nat.mul_mod]
theorem fb_andL (a b : Nat) : lN a &&& lN b = lN (a &&& b) := by
  apply Int64.toBitVec_inj.1
  show BitVec.ofNat 64 a &&& BitVec.ofNat 64 b = BitVec.ofNat 64 (a &&& b)
  apply BitVec.eq_of_getLsbD_eq
  intro i hi
  simp [hi]
theorem fb_orL (a b : Nat) : lN a ||| lN b = lN (a ||| b) := by
  apply Int64.toBitVec_inj.1
  show BitVec.ofNat 64 a ||| BitVec.ofNat 64 b = BitVec.ofNat 64 (a ||| b)
  apply BitVec.eq_of_getLsbD_eq
  intro i hi
  simp [hi]
theorem fb_xorL (a b : Nat) : lN a ^^^ lN b = lN (a ^^^ b) := by
  apply Int64.toBitVec_inj.1
  show BitVec.ofNat 64 a ^^^ BitVec.ofNat 64 b = BitVec.ofNat 64 (a ^^^ b)
  apply BitVec.eq_of_getLsbD_eq
  intro i hi
  simp [hi]
/-! WORDS: letters below 4, two bits each, the first lowest -/
def enc : List Nat → Nat
  | [] => 0
  | a :: u => a + 4 * enc u
def okL (u : List Nat) : Prop := ∀ a ∈ u, a < 4
def okW (u : List Nat) : Prop := u.length ≤ 24 ∧ okL u
theorem okL_get {u : List Nat} (h : okL u) (i : Nat) : u.getD i 0 < 4 := by
  by_cases hi : i < u.length
  · rw [List.getD_eq_getElem?_getD, List.getElem?_eq_getElem hi]
    exact h _ (List.getElem_mem hi)
  · rw [List.getD_eq_getElem?_getD, List.getElem?_eq_none (by omega)]
    decide
theorem enc_lt : ∀ {u : List Nat}, okL u → enc u < 4 ^ u.length
  | [], _ => by simp [enc]
  | a :: u, h => by
    have h1 := enc_lt (u := u) (fun x hx => h x (List.mem_cons_of_mem _ hx))
    have h2 := h a List.mem_cons_self
    simp only [enc, List.length_cons, Nat.pow_succ]
    omega
theorem enc_lt48 {u : List Nat} (h : okW u) : enc u < 2 ^ 48 := by
  have h1 := enc_lt h.2
  have h2 : 4 ^ u.length ≤ 4 ^ 24 := Nat.pow_le_pow_right (by decide) h.1
  have h3 : (4 : Nat) ^ 24 = 2 ^ 48 := by decide
  omega
theorem enc_bit : ∀ (u : List Nat), okL u → ∀ j, (enc u).testBit j = (u.getD (j / 2) 0).testBit (j % 2)
  | [], _, j => by simp [enc]
  | a :: u, h, j => by
    have h1 := enc_bit u (fun x hx => h x (List.mem_cons_of_mem _ hx))
    have h2 : a < 2 ^ 2 := h a List.mem_cons_self
    have e : enc (a :: u) = 2 ^ 2 * enc u + a := by simp [enc]; omega
    rw [e, Nat.testBit_two_pow_mul_add _ h2]
    by_cases hj : j < 2
    · rw [if_pos hj, show j / 2 = 0 by omega, show j % 2 = j by omega]
      rfl
    · rw [if_neg hj, h1, show j / 2 = (j - 2) / 2 + 1 by omega, show j % 2 = (j - 2) % 2 by omega]
      rfl
theorem enc_div : ∀ (u : List Nat) (i : Nat), okL u → enc u / 4 ^ i % 4 = u.getD i 0
  | [], i, _ => by simp [enc]
  | a :: u, 0, h => by
    have h2 := h a List.mem_cons_self
    simp [enc]; omega
  | a :: u, i + 1, h => by
    have h1 := enc_div u i (fun x hx => h x (List.mem_cons_of_mem _ hx))
    have h2 := h a List.mem_cons_self
    have e : enc (a :: u) / 4 = enc u := by simp [enc]; omega
    rw [Nat.pow_succ, Nat.mul_comm, ← Nat.div_div_eq_div_mul, e, h1]
    rfl
theorem enc_inj : ∀ {u v : List Nat}, okL u → okL v → u.length = v.length → enc u = enc v → u = v
  | [], [], _, _, _, _ => rfl
  | [], b :: v, _, _, h, _ => by simp at h
  | a :: u, [], _, _, h, _ => by simp at h
  | a :: u, b :: v, h1, h2, h3, h4 => by
    have e1 := h1 a List.mem_cons_self
    have e2 := h2 b List.mem_cons_self
    simp [enc] at h4
    have e3 : enc u = enc v := by omega
    have e4 : a = b := by omega
    rw [e4, enc_inj (fun x hx => h1 x (List.mem_cons_of_mem _ hx)) (fun x hx => h2 x (List.mem_cons_of_mem _ hx)) (by simpa using h3) e3]
def usr (x : Int64) (k : Int32) : Int64 := (x.toUInt64 >>> (k.toInt64.toUInt64 &&& Int64.toUInt64 63)).toInt64
def bLet (b : Int64) (i : Int32) : Int32 := (usr b (2 * i)).toInt32 &&& 3
def bAhd (b : Int64) (i : Int32) : Int64 := b &&& ((1 : Int64) <<< ((2 * i).toInt64 &&& 63) - 1)
def bTrn (b : Int64) (i l : Int32) : Int64 := (b &&& (((3 : Int64) <<< ((2 * i).toInt64 &&& 63)) ^^^ (-1))) ||| (l.toInt64 <<< ((2 * i).toInt64 &&& 63))
def bLos (b : Int64) (i : Int32) : Int64 := bAhd b i ||| (usr b (2 * i + 2) <<< ((2 * i).toInt64 &&& 63))
def bGan (b : Int64) (i l : Int32) : Int64 := (bAhd b i ||| (l.toInt64 <<< ((2 * i).toInt64 &&& 63))) ||| (usr b (2 * i) <<< ((2 * i + 2).toInt64 &&& 63))
theorem n2 (i : Nat) : (2 : Int32) * nI i = nI (2 * i) := pk_mul 2 i
theorem n22 (i : Nat) : nI (2 * i) + 2 = nI (2 * i + 2) := nI_add (2 * i) 2
theorem p4 (i : Nat) : (2 : Nat) ^ (2 * i) = 4 ^ i := by rw [Nat.pow_mul]
theorem bLet_w {u : List Nat} (h : okW u) {i : Nat} (hi : i < 32) : bLet (lN (enc u)) (nI i) = nI (u.getD i 0) := by
  have h1 := enc_lt48 h
  unfold bLet usr
  rw [n2, wb_shr (by omega) (by omega), lN_i, p4]
  have e := fa_mask (enc u / 4 ^ i) 2
  rw [show (2 : Nat) ^ 2 = 4 from rfl] at e
  rw [show (3 : Int32) = nI (4 - 1) from rfl, e, enc_div u i h.2]
theorem lN_m1 : (-1 : Int64) = lN (2 ^ 64 - 1) := by decide +kernel
theorem bAhd_w {n : Nat} {i : Nat} (hi : i < 32) : bAhd (lN n) (nI i) = lN (n % 4 ^ i) := by
  unfold bAhd
  rw [n2, show (1 : Int64) = lN 1 from rfl, wb_shl 1 (by omega), Nat.one_mul, lN_sub (Nat.one_le_two_pow), fb_andL, Nat.and_two_pow_sub_one_eq_mod, p4]
theorem bit_hi {n j k : Nat} (h : n < 2 ^ k) (hj : k ≤ j) : n.testBit j = false := Nat.testBit_lt_two_pow (Nat.lt_of_lt_of_le h (Nat.pow_le_pow_right (by decide) hj))
theorem bTrn_w {u : List Nat} (h : okW u) {i l : Nat} (hi : i < u.length) (hl : l < 4) : bTrn (lN (enc u)) (nI i) (nI l) = lN (enc (u.set i l)) := by
  have h1 := enc_lt48 h
  have h24 := h.1
  have hok : okL (u.set i l) := fun a ha => by
    rcases List.mem_or_eq_of_mem_set ha with h9 | h9
    · exact h.2 a h9
    · omega
  unfold bTrn
  rw [n2, show (3 : Int64) = lN 3 from rfl, lN_m1, wb_shl 3 (by omega), nI_l (by omega), wb_shl l (by omega), fb_xorL, fb_andL, fb_orL]
  congr 1
  apply Nat.eq_of_testBit_eq
  intro j
  rw [Nat.testBit_or, Nat.testBit_and, Nat.testBit_xor, Nat.testBit_mul_two_pow, Nat.testBit_mul_two_pow, Nat.testBit_two_pow_sub_one, enc_bit _ h.2, enc_bit _ hok]
  have hb3 : ∀ k, Nat.testBit 3 k = decide (k < 2) := fun k => by
    have := Nat.testBit_two_pow_sub_one 2 k
    simpa using this
  rw [hb3]
  by_cases c1 : j < 2 * i
  · have e1 : ¬ 2 * i ≤ j := by omega
    have e2 : i ≠ j / 2 := by omega
    have e3 : j < 64 := by omega
    simp [e1, e3, List.getD_eq_getElem?_getD, List.getElem?_set_ne e2]
  · by_cases c2 : j < 2 * i + 2
    · have e1 : 2 * i ≤ j := by omega
      have e2 : j / 2 = i := by omega
      have e3 : j - 2 * i < 2 := by omega
      have e4 : j % 2 = j - 2 * i := by omega
      have e5 : j < 64 := by omega
      simp [e1, e2, e3, e4, e5, List.getD_eq_getElem?_getD, List.getElem?_set_self hi]
    · have e1 : 2 * i ≤ j := by omega
      have e2 : i ≠ j / 2 := by omega
      have e3 : ¬ j - 2 * i < 2 := by omega
      have e4 : l.testBit (j - 2 * i) = false := bit_hi (k := 2) (by omega) (by omega)
      by_cases e5 : j < 64
      · simp [e1, e3, e4, e5, List.getD_eq_getElem?_getD, List.getElem?_set_ne e2]
      · have e6 : u.length ≤ j / 2 := by omega
        simp [e1, e3, e4, List.getD_eq_getElem?_getD, List.getElem?_set_ne e2, List.getElem?_eq_none e6]
theorem erase_get {u : List Nat} {i k : Nat} : (u.eraseIdx i).getD k 0 = if k < i then u.getD k 0 else u.getD (k + 1) 0 := by
  rw [List.getD_eq_getElem?_getD, List.getElem?_eraseIdx]
  by_cases h : k < i
  · simp [h, List.getD_eq_getElem?_getD]
  · simp [h, List.getD_eq_getElem?_getD]
theorem bLos_w {u : List Nat} (h : okW u) {i : Nat} (hi : i < u.length) : bLos (lN (enc u)) (nI i) = lN (enc (u.eraseIdx i)) := by
  have h1 := enc_lt48 h
  have h24 := h.1
  have hok : okL (u.eraseIdx i) := fun a ha => h.2 a (List.mem_of_mem_eraseIdx ha)
  unfold bLos usr
  rw [bAhd_w (by omega), n2, n22, wb_shr (by omega) (by omega), wb_shl _ (by omega), fb_orL]
  congr 1
  apply Nat.eq_of_testBit_eq
  intro j
  rw [Nat.testBit_or, Nat.testBit_mul_two_pow, ← p4, Nat.testBit_mod_two_pow, Nat.testBit_div_two_pow, enc_bit _ h.2, enc_bit _ h.2, enc_bit _ hok, erase_get]
  by_cases c1 : j < 2 * i
  · have e1 : ¬ 2 * i ≤ j := by omega
    have e2 : j / 2 < i := by omega
    simp [c1, e1, e2]
  · have e1 : 2 * i ≤ j := by omega
    have e2 : ¬ j / 2 < i := by omega
    have e3 : (j - 2 * i + (2 * i + 2)) / 2 = j / 2 + 1 := by omega
    have e4 : (j - 2 * i + (2 * i + 2)) % 2 = j % 2 := by omega
    simp [c1, e1, e2, e3, e4]
theorem ins_get {u : List Nat} {i k l : Nat} (hi : i ≤ u.length) : (u.insertIdx i l).getD k 0 = if k < i then u.getD k 0 else if k = i then l else u.getD (k - 1) 0 := by
  rw [List.getD_eq_getElem?_getD, List.getElem?_insertIdx]
  by_cases h : k < i
  · simp [h, List.getD_eq_getElem?_getD]
  · by_cases h2 : k = i
    · subst h2
      simp [hi]
    · simp [h, h2, List.getD_eq_getElem?_getD]
theorem bGan_w {u : List Nat} (h : okW u) {i l : Nat} (hi : i ≤ u.length) (hl : l < 4) : bGan (lN (enc u)) (nI i) (nI l) = lN (enc (u.insertIdx i l)) := by
  have h1 := enc_lt48 h
  have h24 := h.1
  have hok : okL (u.insertIdx i l) := fun a ha => by
    rcases (List.mem_insertIdx hi).mp ha with h9 | h9
    · omega
    · exact h.2 a h9
  unfold bGan usr
  rw [bAhd_w (by omega), n2, n22, wb_shr (by omega) (by omega), nI_l (by omega), wb_shl l (by omega), wb_shl (enc u / _) (by omega), fb_orL, fb_orL]
  congr 1
  apply Nat.eq_of_testBit_eq
  intro j
  rw [Nat.testBit_or, Nat.testBit_or, Nat.testBit_mul_two_pow, Nat.testBit_mul_two_pow, ← p4, Nat.testBit_mod_two_pow, Nat.testBit_div_two_pow, enc_bit _ h.2, enc_bit _ h.2, enc_bit _ hok, ins_get hi]
  by_cases c1 : j < 2 * i
  · have e1 : ¬ 2 * i ≤ j := by omega
    have e2 : j / 2 < i := by omega
    have e3 : ¬ 2 * i + 2 ≤ j := by omega
    simp [c1, e1, e2, e3]
  · by_cases c2 : j < 2 * i + 2
    · have e1 : 2 * i ≤ j := by omega
      have e2 : ¬ j / 2 < i := by omega
      have e3 : ¬ 2 * i + 2 ≤ j := by omega
      have e4 : j / 2 = i := by omega
      have e5 : j - 2 * i = j % 2 := by omega
      simp [c1, e1, e3, e4, e5]
    · have e1 : 2 * i ≤ j := by omega
      have e2 : ¬ j / 2 < i := by omega
      have e3 : 2 * i + 2 ≤ j := by omega
      have e4 : ¬ j / 2 = i := by omega
      have e5 : l.testBit (j - 2 * i) = false := bit_hi (k := 2) (by omega) (by omega)
      have e6 : (j - (2 * i + 2) + 2 * i) / 2 = j / 2 - 1 := by omega
      have e7 : (j - (2 * i + 2) + 2 * i) % 2 = j % 2 := by omega
      simp [c1, e1, e2, e3, e4, e5, e6, e7]
