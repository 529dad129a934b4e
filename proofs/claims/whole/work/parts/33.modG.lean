/-! sources, best -/
abbrev RR : Type := Nat × Nat × List Nat
def prN (K : Nat) (tr : Nat → List Nat) (v : List Nat) : Nat → Nat → Nat → Nat
  | 0, _, P => P
  | c + 1, j, P => prN K tr v c (j + 1) (min K (P * em (tr j) v))
def stR (K : Nat) (tr : Nat → List Nat) (tn : Nat) (v : List Nat) (r : RR) : RR := if 0 < prN K tr v tn 0 1 then (r.1 + 1, if r.2.1 < prN K tr v tn 0 1 then (prN K tr v tn 0 1, v) else r.2) else r
def brF (K : Nat) (tr : Nat → List Nat) (tn q n : Nat) : Nat → RR
  | 0 => (0, 0, [])
  | k + 1 => stR K tr tn (nuW q n k) (brF K tr tn q n k)
theorem prN_le {K : Nat} {tr : Nat → List Nat} {v : List Nat} : ∀ (c j P : Nat), P ≤ K → prN K tr v c j P ≤ K
  | 0, j, P, h => h
  | c + 1, j, P, h => prN_le c (j + 1) _ (Nat.min_le_left _ _)
def mpD (P x : Int64) : Int64 := if x = 0 then 0 else if (1000000000000000 : Int64) / x < P then 1000000000000000 else P * x
theorem lt63 {a b : Nat} (ha : a < 2 ^ 63) (hb : b < 2 ^ 63) : lN a < lN b ↔ a < b := by
  have h := pk_lLE hb ha
  rw [fa_le64] at h
  rw [fa_lt64]
  omega
theorem mp_v {K P x : Nat} (hK : K = 1000000000000000) (hP : P ≤ K) (hx : x ≤ 4096) : mpD (lN P) (lN x) = lN (min K (P * x)) := by
  unfold mpD
  rw [fa_litL 1000000000000000]
  rw [show (OfNat.ofNat 1000000000000000 : Nat) = K from hK.symm]
  have hPx : P * x ≤ K * 4096 := Nat.mul_le_mul hP hx
  by_cases h0 : x = 0
  · subst h0
    rw [if_pos (show lN 0 = 0 from rfl), Nat.mul_zero, Nat.min_eq_right (Nat.zero_le _)]
    rfl
  · rw [if_neg (show ¬ lN x = 0 from fun e => h0 ((pk_lEQ (a := x) (b := 0) (by omega) (by omega)).mp e)), pk_lDiv (by omega) (by omega) (by omega)]
    have hd : K / x ≤ K := Nat.div_le_self _ _
    by_cases h1 : K / x < P
    · rw [if_pos ((lt63 (by omega) (by omega)).mpr h1)]
      rw [Nat.div_lt_iff_lt_mul (by omega)] at h1
      rw [Nat.min_eq_left (by omega)]
    · rw [if_neg (fun e => h1 ((lt63 (by omega) (by omega)).mp e)), lN_mul]
      rw [Nat.div_lt_iff_lt_mul (by omega)] at h1
      rw [Nat.min_eq_right (by omega)]
theorem em_4096 {s v : List Nat} (hv : v.length ≤ 12) : em s v ≤ 4096 := Nat.le_trans (em_le v s) (Nat.le_trans (Nat.pow_le_pow_right (by decide) hv) (by decide))
theorem pd_v {K : Nat} (hK : K = 1000000000000000) {mp : Int64 → Int64 → Int64} (hmp : ∀ P x, mp P x = mpD P x) {tr : Nat → List Nat} {v : List Nat} (hv : v.length ≤ 12) : ∀ (c j P : Nat) (g : Nat → Int64), P ≤ K → (pdF mp tr v c j (lN P) g).1 = lN (prN K tr v c j P)
  | 0, j, P, g, h => rfl
  | c + 1, j, P, g, h => by
    rw [pdF, prN, lyO_0 (by omega), hmp, mp_v hK h (em_4096 hv)]
    exact pd_v hK hmp hv c (j + 1) _ _ (Nat.min_le_left _ _)
theorem pw_iff {q : Nat} (hq : 2 ≤ q) : ∀ (c v : Nat), 1 ≤ v → (v * q ^ c ≤ 4096 → pwL q c v = v * q ^ c) ∧ (4096 < v * q ^ c → 4096 < pwL q c v)
  | 0, v, h => by rw [Nat.pow_zero, Nat.mul_one]; exact ⟨fun _ => rfl, fun h => h⟩
  | c + 1, v, h => by
    have e : v * q ^ (c + 1) = v * q * q ^ c := by rw [Nat.pow_succ', Nat.mul_assoc]
    have hp : 0 < q ^ (c + 1) := Nat.pow_pos (by omega)
    have hv : v ≤ v * q ^ (c + 1) := Nat.le_mul_of_pos_right v hp
    rw [pwL]
    by_cases h1 : 4096 < v
    · rw [if_pos h1]
      exact ⟨fun h2 => by omega, fun _ => h1⟩
    · rw [if_neg h1, e]
      exact pw_iff hq c (v * q) (Nat.mul_pos (by omega) (by omega))
abbrev sOK (q : Nat) (n : Int32) : Prop := ∃ k : Nat, n = nI k ∧ 1 ≤ k ∧ k ≤ 12 ∧ q ^ k ≤ 4096
theorem M_src0 {w : Wd} {S : St} (h : MI w S) {n : Int32} (hb : ¬ sOK S.1 n) : CW mX7_sources [.ref 41, .int n] w (some (.int (-1))) w := by
  obtain ⟨hS, x, mf, lf, E, nl, g, f, hX, hW, hE⟩ := h
  have hq := hS.1
  refine cw_of (M := mX7_sources) fx_X7_sources (lv := [.ref 41, .int n, dmy, dmy]) rfl (Nat.le_of_ble_eq_true rfl) ?_
  refine e_iload_n dX7_sources_0 rfl (pn 1 rfl ?_)
  refine e_i2l dX7_sources_1 (pn 2 rfl ?_)
  refine e_lc (1) dX7_sources_2 (by decide) (pn 3 rfl ?_)
  refine e_ldc2 dX7_sources_3 lk_X7_146 (pn 6 rfl ?_)
  refine c_S1 dX7_sources_6 ml_X7_39 ms_X7_in (by decide) (q_in w n 1 12 (by decide) (by decide)) rfl rfl (Nat.le_of_ble_eq_true rfl) (pn 9 rfl ?_)
  by_cases h1 : 1 ≤ n ∧ n ≤ 12
  · rw [if_pos h1]
    obtain ⟨k, hk, rfl⟩ := i_nat (a := 1) (b := 12) (by decide) h1.1 h1.2 (by decide)
    have hp := (pw_iff hq.1 k 1 (Nat.le_refl _)).2 (by rw [Nat.one_mul]; exact Nat.lt_of_not_le (fun e => hb ⟨k, rfl, hk.1, hk.2, e⟩))
    have hp2 := pwL_le hq.2 k 1 (by decide)
    refine e_if_eq 23 dX7_sources_9 (by decide) (fun c_9 => absurd c_9 (by decide)) (fun _ => pn 12 rfl ?_)
    refine e_aload_n dX7_sources_12 rfl (pn 13 rfl ?_)
    refine e_iload_n dX7_sources_13 rfl (pn 14 rfl ?_)
    refine c_V1 dX7_sources_14 ml_X7_148 mv_X7_power (by decide) (q_power hX.1.1 (show (mdS S x).1 ≤ 4 from hq.2) (n := k) hk.2) hX.1.1 rfl rfl (Nat.le_of_ble_eq_true rfl) (pn 17 rfl ?_)
    refine e_si (4096) dX7_sources_17 (by decide) (pn 20 rfl ?_)
    refine e_icmp_le 25 dX7_sources_20 (by decide) (fun c_9 => absurd c_9 (nI_ge (a := 4096) (show 4096 < pwL S.1 k 1 from hp) (show pwL S.1 k 1 < 2 ^ 31 by omega))) (fun _ => pn 23 rfl ?_)
    refine e_ic (-1) dX7_sources_23 (by decide) (pn 24 rfl ?_)
    exact e_iret dX7_sources_24 rfl rfl rfl
  · rw [if_neg h1]
    refine e_if_eq 23 dX7_sources_9 (by decide) (fun _ => ?_) (fun c_9 => absurd (by decide) c_9)
    refine e_ic (-1) dX7_sources_23 (by decide) (pn 24 rfl ?_)
    exact e_iret dX7_sources_24 rfl rfl rfl
/-- a number's word laid out, and its product -/
theorem M_step {w : Wd} {S : St} (hS : SI S) {x : Int32} {mf lf E nl : Nat → Int32} {g : Nat → Int64} {f : Nat → Int32} (hX : MX w S x mf lf E nl g f) (hW : MW S mf lf) {n k : Nat} (hn1 : 1 ≤ n) (hn : n ≤ 12) (hk : k < 4096) {K : Nat} (hK : K = 1000000000000000) : ∃ (g2 : Nat → Int64), CW mX7_numbers [.ref 41, .int (nI n), .int (nI k)] w none (wA w (va_up mf 21 (nI n)) (wrL lf 21 (nuW S.1 n k))) ∧ CW mX7_product [.ref 41] (wA w (va_up mf 21 (nI n)) (wrL lf 21 (nuW S.1 n k))) (some (.long (lN (prN K S.2.2.2.1.2 (nuW S.1 n k) S.2.2.2.1.1 0 1)))) ((wA w (va_up mf 21 (nI n)) (wrL lf 21 (nuW S.1 n k))).set 46 (aJ 900 g2)) ∧ wM (va_up mf 21 (nI n)) (wrL lf 21 (nuW S.1 n k)) 21 (nuW S.1 n k) ∧ MW S (va_up mf 21 (nI n)) (wrL lf 21 (nuW S.1 n k)) ∧ okQ S.1 (nuW S.1 n k) := by
  have hq := hS.1
  have hlen := nuW_len S.1 n k
  have okv : okQ S.1 (nuW S.1 n k) := ⟨by omega, fun a ha => by
    obtain ⟨y, -, e⟩ := List.mem_map.mp ha
    rw [← e]
    exact Nat.mod_lt _ (by omega)⟩
  have NU := q_numbers hX.1 (mf := mf) (lf := lf) (show 2 ≤ (mdS S x).1 ∧ (mdS S x).1 ≤ 4 from hq) (n := n) (x := k) hn1 hn (by omega)
  rw [wA_id hX.1] at NU
  have NU : CW mX7_numbers [.ref 41, .int (nI n), .int (nI k)] w none (wA w (va_up mf 21 (nI n)) (wrL lf 21 (nuW S.1 n k))) := NU
  generalize hv : nuW S.1 n k = v at *
  have W1 := hW.hand hS.2.2.2.1.1 (s := 21) (v := v) (by decide) (by omega) (nI n)
  have V1 : wM (va_up mf 21 (nI n)) (wrL lf 21 v) 21 v := by
    have := wM.wr (s := 21) mf lf (v := v) (by omega)
    rw [hlen] at this
    exact this
  have X1 := hX.sA (va_up mf 21 (nI n)) (wrL lf 21 v)
  have PR := q_product X1.1 (tr := S.2.2.2.1.2) (show (mdS S x).2.2.2.2.2.1 ≤ 8 from hS.2.2.2.1.1) (fun k hk => ⟨W1.2 k hk, hS.wt hk⟩) V1 (okv.w hq.2) X1.2.2.2.1 (mp := mpD) (fun P x => rfl)
  have e1 : (pdF mpD S.2.2.2.1.2 v (mdS S x).2.2.2.2.2.1 0 1 g).1 = lN (prN K S.2.2.2.1.2 v S.2.2.2.1.1 0 1) := pd_v hK (fun _ _ => rfl) (by omega) S.2.2.2.1.1 0 1 g (by omega)
  rw [e1] at PR
  exact ⟨_, NU, PR, V1, W1, okv⟩
theorem M_src1 {w : Wd} {S : St} (h : MI w S) {n : Nat} (hn1 : 1 ≤ n) (hn : n ≤ 12) (hp : S.1 ^ n ≤ 4096) {K : Nat} (hK : K = 1000000000000000) : ∃ w2, CW mX7_sources [.ref 41, .int (nI n)] w (some (.int (nI (brF K S.2.2.2.1.2 S.2.2.2.1.1 S.1 n (S.1 ^ n)).1))) w2 ∧ FM w w2 ∧ MI w2 S := by
  obtain ⟨hS, x, mf, lf, E, nl, g, f, hX, hW, hE⟩ := h
  have hq := hS.1
  have epw : pwL S.1 n 1 = S.1 ^ n := by have := (pw_iff hq.1 n 1 (Nat.le_refl _)).1 (by rw [Nat.one_mul]; exact hp); rw [Nat.one_mul] at this; exact this
  have loop : ∀ (c k : Nat) (w1 : Wd) (mf1 lf1 : Nat → Int32) (g1 : Nat → Int64), k + c = S.1 ^ n → MX w1 S x mf1 lf1 E nl g1 f → MW S mf1 lf1 → FM w w1 → ∃ w2, EW mX7_sources none 29 [.ref 41, .int (nI n), .int (nI (brF K S.2.2.2.1.2 S.2.2.2.1.1 S.1 n k).1), .int (nI k)] [] w1 (some (.int (nI (brF K S.2.2.2.1.2 S.2.2.2.1.1 S.1 n (S.1 ^ n)).1))) w2 ∧ FM w w2 ∧ MI w2 S := by
    intro c
    induction c with
    | zero =>
      intro k w1 mf1 lf1 g1 hk X1 W1 F1
      have e : k = S.1 ^ n := by omega
      refine ⟨w1, ?_, F1, hS, x, mf1, lf1, E, nl, g1, f, X1, W1, hE⟩
      have PW := q_power X1.1.1 (show (mdS S x).1 ≤ 4 from hq.2) (n := n) hn
      rw [show pwL (mdS S x).1 n 1 = S.1 ^ n from epw] at PW
      refine e_iload_n dX7_sources_29 rfl (pn 30 rfl ?_)
      refine e_aload_n dX7_sources_30 rfl (pn 31 rfl ?_)
      refine e_iload_n dX7_sources_31 rfl (pn 32 rfl ?_)
      refine c_V1 dX7_sources_32 ml_X7_148 mv_X7_power (by decide) PW X1.1.1 rfl rfl (Nat.le_of_ble_eq_true rfl) (pn 35 rfl ?_)
      refine e_icmp_ge 67 dX7_sources_35 (by decide) (fun _ => ?_) (fun c_9 => absurd (nI_le (by omega) (by omega)) c_9)
      refine e_iload_n dX7_sources_67 rfl (pn 68 rfl ?_)
      exact e_iret dX7_sources_68 rfl (by rw [e]) rfl
    | succ c ih =>
      intro k w1 mf1 lf1 g1 hk X1 W1 F1
      obtain ⟨g2, NU, PR, V2, W2, -⟩ := M_step hS X1 W1 hn1 hn (show k < 4096 by omega) hK
      have X2 := X1.sA (va_up mf1 21 (nI n)) (wrL lf1 21 (nuW S.1 n k))
      have F2 := X1.FA F1 (va_up mf1 21 (nI n)) (wrL lf1 21 (nuW S.1 n k))
      obtain ⟨w2, K2, F3, M3⟩ := ih (k + 1) _ _ _ _ (by omega) (X2.s46 g2) W2 (X2.F46 F2 g2)
      refine ⟨w2, ?_, F3, M3⟩
      have hb := prN_le (K := K) (tr := S.2.2.2.1.2) (v := nuW S.1 n k) S.2.2.2.1.1 0 1 (by omega)
      have PW := q_power X1.1.1 (show (mdS S x).1 ≤ 4 from hq.2) (n := n) hn
      rw [show pwL (mdS S x).1 n 1 = S.1 ^ n from epw] at PW
      rw [brF, stR] at K2
      generalize prN K S.2.2.2.1.2 (nuW S.1 n k) S.2.2.2.1.1 0 1 = p at *
      refine e_iload_n dX7_sources_29 rfl (pn 30 rfl ?_)
      refine e_aload_n dX7_sources_30 rfl (pn 31 rfl ?_)
      refine e_iload_n dX7_sources_31 rfl (pn 32 rfl ?_)
      refine c_V1 dX7_sources_32 ml_X7_148 mv_X7_power (by decide) PW X1.1.1 rfl rfl (Nat.le_of_ble_eq_true rfl) (pn 35 rfl ?_)
      refine e_icmp_ge 67 dX7_sources_35 (by decide) (fun c_9 => absurd c_9 (nI_ge (by omega) (by omega))) (fun _ => pn 38 rfl ?_)
      refine e_aload_n dX7_sources_38 rfl (pn 39 rfl ?_)
      refine e_iload_n dX7_sources_39 rfl (pn 40 rfl ?_)
      refine e_iload_n dX7_sources_40 rfl (pn 41 rfl ?_)
      refine c_V0 dX7_sources_41 ml_X7_151 mv_X7_numbers (by decide) NU X1.1.1 rfl rfl (Nat.le_of_ble_eq_true rfl) (pn 44 rfl ?_)
      refine e_iload_n dX7_sources_44 rfl (pn 45 rfl ?_)
      refine e_aload_n dX7_sources_45 rfl (pn 46 rfl ?_)
      refine c_V1 dX7_sources_46 ml_X7_154 mv_X7_product (by decide) PR X2.1.1 rfl rfl (Nat.le_of_ble_eq_true rfl) (pn 49 rfl ?_)
      refine e_lc (0) dX7_sources_49 (by decide) (pn 50 rfl ?_)
      refine e_lcmp dX7_sources_50 (pn 51 rfl ?_)
      by_cases h0 : 0 < p
      · rw [if_pos h0] at K2
        refine e_if_le 58 dX7_sources_51 (by decide) (fun c_9 => absurd c_9 (fun e => (cmp_le _ _).mp e ((lt63 (a := 0) (by omega) (by omega)).mpr h0))) (fun _ => pn 54 rfl ?_)
        refine e_ic (1) dX7_sources_54 (by decide) (pn 55 rfl ?_)
        refine e_goto 59 dX7_sources_55 (by decide) ?_
        refine e_iadd dX7_sources_59 (pn 60 rfl ?_)
        refine s_in [_, _, _, _] dX7_sources_60 (Nat.le_of_ble_eq_true rfl) rfl (pn 61 rfl ?_)
        refine s_inc [_, _, _, _] (1) dX7_sources_61 (by decide) rfl (Nat.le_of_ble_eq_true rfl) rfl (pn 64 rfl ?_)
        refine e_goto 29 dX7_sources_64 (by decide) ?_
        rw [nI_1, nI_1]
        exact K2
      · rw [if_neg h0] at K2
        refine e_if_le 58 dX7_sources_51 (by decide) (fun _ => ?_) (fun c_9 => absurd ((cmp_le _ _).mpr (fun e => h0 ((lt63 (a := 0) (by omega) (by omega)).mp e))) c_9)
        refine e_ic (0) dX7_sources_58 (by decide) (pn 59 rfl ?_)
        refine e_iadd dX7_sources_59 (pn 60 rfl ?_)
        refine s_in [_, _, _, _] dX7_sources_60 (Nat.le_of_ble_eq_true rfl) rfl (pn 61 rfl ?_)
        refine s_inc [_, _, _, _] (1) dX7_sources_61 (by decide) rfl (Nat.le_of_ble_eq_true rfl) rfl (pn 64 rfl ?_)
        refine e_goto 29 dX7_sources_64 (by decide) ?_
        rw [nI_1, show nI (brF K S.2.2.2.1.2 S.2.2.2.1.1 S.1 n k).1 + 0 = nI (brF K S.2.2.2.1.2 S.2.2.2.1.1 S.1 n k).1 from nI_add _ 0]
        exact K2
  obtain ⟨w2, L, F2, M2⟩ := loop (S.1 ^ n) 0 w mf lf g (by omega) hX hW (FM.rf w)
  refine ⟨w2, ?_, F2, M2⟩
  have PW := q_power hX.1.1 (show (mdS S x).1 ≤ 4 from hq.2) (n := n) hn
  rw [show pwL (mdS S x).1 n 1 = S.1 ^ n from epw] at PW
  refine cw_of (M := mX7_sources) fx_X7_sources (lv := [.ref 41, .int (nI n), dmy, dmy]) rfl (Nat.le_of_ble_eq_true rfl) ?_
  refine e_iload_n dX7_sources_0 rfl (pn 1 rfl ?_)
  refine e_i2l dX7_sources_1 (pn 2 rfl ?_)
  refine e_lc (1) dX7_sources_2 (by decide) (pn 3 rfl ?_)
  refine e_ldc2 dX7_sources_3 lk_X7_146 (pn 6 rfl ?_)
  refine c_S1 dX7_sources_6 ml_X7_39 ms_X7_in (by decide) (q_in w (nI n) 1 12 (by decide) (by decide)) rfl rfl (Nat.le_of_ble_eq_true rfl) (pn 9 rfl ?_)
  rw [if_pos ⟨nI_le (a := 1) hn1 (by omega), nI_le (b := 12) hn (by omega)⟩]
  refine e_if_eq 23 dX7_sources_9 (by decide) (fun c_9 => absurd c_9 (by decide)) (fun _ => pn 12 rfl ?_)
  refine e_aload_n dX7_sources_12 rfl (pn 13 rfl ?_)
  refine e_iload_n dX7_sources_13 rfl (pn 14 rfl ?_)
  refine c_V1 dX7_sources_14 ml_X7_148 mv_X7_power (by decide) PW hX.1.1 rfl rfl (Nat.le_of_ble_eq_true rfl) (pn 17 rfl ?_)
  refine e_si (4096) dX7_sources_17 (by decide) (pn 20 rfl ?_)
  refine e_icmp_le 25 dX7_sources_20 (by decide) (fun _ => ?_) (fun c_9 => absurd (nI_le (b := 4096) hp (by omega)) c_9)
  refine e_ic (0) dX7_sources_25 (by decide) (pn 26 rfl ?_)
  refine s_in [_, _, _, _] dX7_sources_26 (Nat.le_of_ble_eq_true rfl) rfl (pn 27 rfl ?_)
  refine e_ic (0) dX7_sources_27 (by decide) (pn 28 rfl ?_)
  refine s_in [_, _, _, _] dX7_sources_28 (Nat.le_of_ble_eq_true rfl) rfl (pn 29 rfl ?_)
  exact L
theorem M_best0 {w : Wd} {S : St} (h : MI w S) {s n : Int32} (hb : ¬ (rOK s ∧ sOK S.1 n)) : CW mX7_best [.ref 41, .int s, .int n] w (some (.int (-1))) w := by
  obtain ⟨hS, x, mf, lf, E, nl, g, f, hX, hW, hE⟩ := h
  have hq := hS.1
  refine cw_of (M := mX7_best) fx_X7_best (lv := [.ref 41, .int s, .int n, dmy, dmy, dmy, dmy, dmy]) rfl (Nat.le_of_ble_eq_true rfl) ?_
  refine e_iload_n dX7_best_0 rfl (pn 1 rfl ?_)
  refine c_S1 dX7_best_1 ml_X7_53 ms_X7_isRegister (by decide) (q_isR w s) rfl rfl (Nat.le_of_ble_eq_true rfl) (pn 4 rfl ?_)
  by_cases hs : rOK s
  · rw [iRp hs]
    refine e_if_eq 30 dX7_best_4 (by decide) (fun c_9 => absurd c_9 (by decide)) (fun _ => pn 7 rfl ?_)
    refine e_iload_n dX7_best_7 rfl (pn 8 rfl ?_)
    refine e_i2l dX7_best_8 (pn 9 rfl ?_)
    refine e_lc (1) dX7_best_9 (by decide) (pn 10 rfl ?_)
    refine e_ldc2 dX7_best_10 lk_X7_146 (pn 13 rfl ?_)
    refine c_S1 dX7_best_13 ml_X7_39 ms_X7_in (by decide) (q_in w n 1 12 (by decide) (by decide)) rfl rfl (Nat.le_of_ble_eq_true rfl) (pn 16 rfl ?_)
    by_cases h1 : 1 ≤ n ∧ n ≤ 12
    · rw [if_pos h1]
      obtain ⟨k, hk, rfl⟩ := i_nat (a := 1) (b := 12) (by decide) h1.1 h1.2 (by decide)
      have hp := (pw_iff hq.1 k 1 (Nat.le_refl _)).2 (by rw [Nat.one_mul]; exact Nat.lt_of_not_le (fun e => hb ⟨hs, k, rfl, hk.1, hk.2, e⟩))
      have hp2 := pwL_le hq.2 k 1 (by decide)
      refine e_if_eq 30 dX7_best_16 (by decide) (fun c_9 => absurd c_9 (by decide)) (fun _ => pn 19 rfl ?_)
      refine e_aload_n dX7_best_19 rfl (pn 20 rfl ?_)
      refine e_iload_n dX7_best_20 rfl (pn 21 rfl ?_)
      refine c_V1 dX7_best_21 ml_X7_148 mv_X7_power (by decide) (q_power hX.1.1 (show (mdS S x).1 ≤ 4 from hq.2) (n := k) hk.2) hX.1.1 rfl rfl (Nat.le_of_ble_eq_true rfl) (pn 24 rfl ?_)
      refine e_si (4096) dX7_best_24 (by decide) (pn 27 rfl ?_)
      refine e_icmp_le 32 dX7_best_27 (by decide) (fun c_9 => absurd c_9 (nI_ge (a := 4096) (show 4096 < pwL S.1 k 1 from hp) (show pwL S.1 k 1 < 2 ^ 31 by omega))) (fun _ => pn 30 rfl ?_)
      refine e_ic (-1) dX7_best_30 (by decide) (pn 31 rfl ?_)
      exact e_iret dX7_best_31 rfl rfl rfl
    · rw [if_neg h1]
      refine e_if_eq 30 dX7_best_16 (by decide) (fun _ => ?_) (fun c_9 => absurd (by decide) c_9)
      refine e_ic (-1) dX7_best_30 (by decide) (pn 31 rfl ?_)
      exact e_iret dX7_best_31 rfl rfl rfl
  · rw [iR0 hs]
    refine e_if_eq 30 dX7_best_4 (by decide) (fun _ => ?_) (fun c_9 => absurd (by decide) c_9)
    refine e_ic (-1) dX7_best_30 (by decide) (pn 31 rfl ?_)
    exact e_iret dX7_best_31 rfl rfl rfl
theorem M_best1 {w : Wd} {S : St} (h : MI w S) {s n : Nat} (hs : s < 12) (hn1 : 1 ≤ n) (hn : n ≤ 12) (hp : S.1 ^ n ≤ 4096) {K : Nat} (hK : K = 1000000000000000) : ∃ w2, CW mX7_best [.ref 41, .int (nI s), .int (nI n)] w (some (.int (if (brF K S.2.2.2.1.2 S.2.2.2.1.1 S.1 n (S.1 ^ n)).2.1 = 0 then -4 else nI n))) w2 ∧ FM w w2 ∧ MI w2 (if (brF K S.2.2.2.1.2 S.2.2.2.1.1 S.1 n (S.1 ^ n)).2.1 = 0 then S else sReg S s (brF K S.2.2.2.1.2 S.2.2.2.1.1 S.1 n (S.1 ^ n)).2.2) := by
  obtain ⟨hS, x, mf, lf, E, nl, g, f, hX, hW, hE⟩ := h
  have hq := hS.1
  have epw : pwL S.1 n 1 = S.1 ^ n := by have := (pw_iff hq.1 n 1 (Nat.le_refl _)).1 (by rw [Nat.one_mul]; exact hp); rw [Nat.one_mul] at this; exact this
  have loop : ∀ (c k : Nat) (w1 : Wd) (mf1 lf1 : Nat → Int32) (g1 : Nat → Int64), k + c = S.1 ^ n → MX w1 S x mf1 lf1 E nl g1 f → MW S mf1 lf1 → FM w w1 → (brF K S.2.2.2.1.2 S.2.2.2.1.1 S.1 n k).2.1 ≤ K → ((brF K S.2.2.2.1.2 S.2.2.2.1.1 S.1 n k).2.1 ≠ 0 → wM mf1 lf1 22 (brF K S.2.2.2.1.2 S.2.2.2.1.1 S.1 n k).2.2 ∧ okQ S.1 (brF K S.2.2.2.1.2 S.2.2.2.1.1 S.1 n k).2.2) → ∃ w2, EW mX7_best none 37 [.ref 41, .int (nI s), .int (nI n), .long (lN (brF K S.2.2.2.1.2 S.2.2.2.1.1 S.1 n k).2.1), dmy, .int (nI k), dmy, dmy] [] w1 (some (.int (if (brF K S.2.2.2.1.2 S.2.2.2.1.1 S.1 n (S.1 ^ n)).2.1 = 0 then -4 else nI n))) w2 ∧ FM w w2 ∧ MI w2 (if (brF K S.2.2.2.1.2 S.2.2.2.1.1 S.1 n (S.1 ^ n)).2.1 = 0 then S else sReg S s (brF K S.2.2.2.1.2 S.2.2.2.1.1 S.1 n (S.1 ^ n)).2.2) := by
    intro c
    induction c with
    | zero =>
      intro k w1 mf1 lf1 g1 hk X1 W1 F1 hK2 hB
      have e : k = S.1 ^ n := by omega
      have PW := q_power X1.1.1 (show (mdS S x).1 ≤ 4 from hq.2) (n := n) hn
      rw [show pwL (mdS S x).1 n 1 = S.1 ^ n from epw] at PW
      rw [← e] at PW ⊢
      generalize brF K S.2.2.2.1.2 S.2.2.2.1.1 S.1 n k = R at *
      by_cases h0 : R.2.1 = 0
      · refine ⟨w1, ?_, F1, ?_⟩
        · refine e_iload dX7_best_37 rfl (pn 39 rfl ?_)
          refine e_aload_n dX7_best_39 rfl (pn 40 rfl ?_)
          refine e_iload_n dX7_best_40 rfl (pn 41 rfl ?_)
          refine c_V1 dX7_best_41 ml_X7_148 mv_X7_power (by decide) PW X1.1.1 rfl rfl (Nat.le_of_ble_eq_true rfl) (pn 44 rfl ?_)
          refine e_icmp_ge 84 dX7_best_44 (by decide) (fun _ => ?_) (fun c_9 => absurd (nI_le (Nat.le_refl k) (by omega)) c_9)
          refine e_lload_n dX7_best_84 rfl (pn 85 rfl ?_)
          refine e_lc (0) dX7_best_85 (by decide) (pn 86 rfl ?_)
          refine e_lcmp dX7_best_86 (pn 87 rfl ?_)
          refine e_if_ne 93 dX7_best_87 (by decide) (fun c_9 => absurd c_9 (fun e2 => e2 ((cmp_eq _ _).mpr (by rw [h0]; rfl)))) (fun _ => pn 90 rfl ?_)
          refine e_bi (-4) dX7_best_90 (by decide) (pn 92 rfl ?_)
          exact e_iret dX7_best_92 rfl (by rw [if_pos h0]) rfl
        · rw [if_pos h0]
          exact ⟨hS, x, mf1, lf1, E, nl, g1, f, X1, W1, hE⟩
      · obtain ⟨V1, ok1⟩ := hB h0
        have CP := q_copies X1.1 (mf := mf1) (lf := lf1) (s := s) (t := 22) (by omega) (by decide)
        rw [wA_id X1.1] at CP
        refine ⟨_, ?_, X1.FA F1 (va_up mf1 s (mf1 22)) (cpF lf1 s 22 30), ?_⟩
        · refine e_iload dX7_best_37 rfl (pn 39 rfl ?_)
          refine e_aload_n dX7_best_39 rfl (pn 40 rfl ?_)
          refine e_iload_n dX7_best_40 rfl (pn 41 rfl ?_)
          refine c_V1 dX7_best_41 ml_X7_148 mv_X7_power (by decide) PW X1.1.1 rfl rfl (Nat.le_of_ble_eq_true rfl) (pn 44 rfl ?_)
          refine e_icmp_ge 84 dX7_best_44 (by decide) (fun _ => ?_) (fun c_9 => absurd (nI_le (Nat.le_refl k) (by omega)) c_9)
          refine e_lload_n dX7_best_84 rfl (pn 85 rfl ?_)
          refine e_lc (0) dX7_best_85 (by decide) (pn 86 rfl ?_)
          refine e_lcmp dX7_best_86 (pn 87 rfl ?_)
          refine e_if_ne 93 dX7_best_87 (by decide) (fun _ => ?_) (fun c_9 => absurd c_9 (fun e2 => h0 ((pk_lEQ (b := 0) (by omega) (by decide)).mp ((cmp_eq _ _).mp e2))))
          refine e_aload_n dX7_best_93 rfl (pn 94 rfl ?_)
          refine e_iload_n dX7_best_94 rfl (pn 95 rfl ?_)
          refine e_bi (22) dX7_best_95 (by decide) (pn 97 rfl ?_)
          refine c_V0 dX7_best_97 ml_X7_69 mv_X7_copies (by decide) CP X1.1.1 rfl rfl (Nat.le_of_ble_eq_true rfl) (pn 100 rfl ?_)
          refine e_iload_n dX7_best_100 rfl (pn 101 rfl ?_)
          exact e_iret dX7_best_101 rfl (by rw [if_neg h0]) rfl
        · rw [if_neg h0]
          exact ⟨hS.reg ok1, x, _, _, E, nl, g1, f, X1.sA _ _, W1.cp hs V1, hE⟩
    | succ c ih =>
      intro k w1 mf1 lf1 g1 hk X1 W1 F1 hK2 hB
      obtain ⟨g2, NU, PR, V2, W2, okv⟩ := M_step hS X1 W1 hn1 hn (show k < 4096 by omega) hK
      have X2 := X1.sA (va_up mf1 21 (nI n)) (wrL lf1 21 (nuW S.1 n k))
      have F2 := X1.FA F1 (va_up mf1 21 (nI n)) (wrL lf1 21 (nuW S.1 n k))
      have X3 := X2.s46 g2
      have F3 := X2.F46 F2 g2
      have hb := prN_le (K := K) (tr := S.2.2.2.1.2) (v := nuW S.1 n k) S.2.2.2.1.1 0 1 (by omega)
      have PW := q_power X1.1.1 (show (mdS S x).1 ≤ 4 from hq.2) (n := n) hn
      rw [show pwL (mdS S x).1 n 1 = S.1 ^ n from epw] at PW
      have IH := ih (k + 1)
      have eb : brF K S.2.2.2.1.2 S.2.2.2.1.1 S.1 n (k + 1) = stR K S.2.2.2.1.2 S.2.2.2.1.1 (nuW S.1 n k) (brF K S.2.2.2.1.2 S.2.2.2.1.1 S.1 n k) := rfl
      rw [eb] at IH
      unfold stR at IH
      have hl := nuW_len S.1 n k
      generalize prN K S.2.2.2.1.2 (nuW S.1 n k) S.2.2.2.1.1 0 1 = p at *
      generalize hR : brF K S.2.2.2.1.2 S.2.2.2.1.1 S.1 n k = R at *
      by_cases h0 : R.2.1 < p
      · rw [if_pos (by omega), if_pos h0] at IH
        have W4 := W2.handC hS.2.2.2.1.1 (s := 22) (t := 21) (by decide) (va_up mf1 21 (nI n) 21)
        have CP := q_copies X3.1 (mf := va_up mf1 21 (nI n)) (lf := wrL lf1 21 (nuW S.1 n k)) (s := 22) (t := 21) (by decide) (by decide)
        rw [wA_id X3.1] at CP
        obtain ⟨w2, K2, F5, M5⟩ := IH _ _ _ _ (by omega) (X3.sA (va_up (va_up mf1 21 (nI n)) 22 (va_up mf1 21 (nI n) 21)) (cpF (wrL lf1 21 (nuW S.1 n k)) 22 21 30)) W4 (X3.FA F3 _ _) hb (fun _ => ⟨V2.cp, okv⟩)
        refine ⟨w2, ?_, F5, M5⟩
        refine e_iload dX7_best_37 rfl (pn 39 rfl ?_)
        refine e_aload_n dX7_best_39 rfl (pn 40 rfl ?_)
        refine e_iload_n dX7_best_40 rfl (pn 41 rfl ?_)
        refine c_V1 dX7_best_41 ml_X7_148 mv_X7_power (by decide) PW X1.1.1 rfl rfl (Nat.le_of_ble_eq_true rfl) (pn 44 rfl ?_)
        refine e_icmp_ge 84 dX7_best_44 (by decide) (fun c_9 => absurd c_9 (nI_ge (by omega) (by omega))) (fun _ => pn 47 rfl ?_)
        refine e_aload_n dX7_best_47 rfl (pn 48 rfl ?_)
        refine e_iload_n dX7_best_48 rfl (pn 49 rfl ?_)
        refine e_iload dX7_best_49 rfl (pn 51 rfl ?_)
        refine c_V0 dX7_best_51 ml_X7_151 mv_X7_numbers (by decide) NU X1.1.1 rfl rfl (Nat.le_of_ble_eq_true rfl) (pn 54 rfl ?_)
        refine e_aload_n dX7_best_54 rfl (pn 55 rfl ?_)
        refine c_V1 dX7_best_55 ml_X7_154 mv_X7_product (by decide) PR X2.1.1 rfl rfl (Nat.le_of_ble_eq_true rfl) (pn 58 rfl ?_)
        refine s_l [_, _, _, _, _, _, _, _] dX7_best_58 (Nat.le_of_ble_eq_true rfl) rfl (pn 60 rfl ?_)
        refine e_lload dX7_best_60 rfl (pn 62 rfl ?_)
        refine e_lload_n dX7_best_62 rfl (pn 63 rfl ?_)
        refine e_lcmp dX7_best_63 (pn 64 rfl ?_)
        refine e_if_le 78 dX7_best_64 (by decide) (fun c_9 => absurd c_9 (fun e => (cmp_le _ _).mp e ((lt63 (by omega) (by omega)).mpr h0))) (fun _ => pn 67 rfl ?_)
        refine e_lload dX7_best_67 rfl (pn 69 rfl ?_)
        refine s_ln [_, _, _, _, _, _, _, _] dX7_best_69 (Nat.le_of_ble_eq_true rfl) rfl (pn 70 rfl ?_)
        refine e_aload_n dX7_best_70 rfl (pn 71 rfl ?_)
        refine e_bi (22) dX7_best_71 (by decide) (pn 73 rfl ?_)
        refine e_bi (21) dX7_best_73 (by decide) (pn 75 rfl ?_)
        refine c_V0 dX7_best_75 ml_X7_69 mv_X7_copies (by decide) CP X3.1.1 rfl rfl (Nat.le_of_ble_eq_true rfl) (pn 78 rfl ?_)
        refine s_inc [_, _, _, _, _, _, _, _] (1) dX7_best_78 (by decide) rfl (Nat.le_of_ble_eq_true rfl) rfl (pn 81 rfl ?_)
        refine e_goto 37 dX7_best_81 (by decide) ?_
        rw [nI_1]
        exact e_dr [_, _, _, _, _, _, _, _] 6 rfl K2
      · have e9 : (if 0 < p then (R.1 + 1, if R.2.1 < p then (p, nuW S.1 n k) else R.2) else R).2 = R.2 := by
          by_cases h1 : 0 < p
          · rw [if_pos h1, if_neg h0]
          · rw [if_neg h1]
        rw [e9] at IH
        obtain ⟨w2, K2, F5, M5⟩ := IH _ _ _ _ (by omega) X3 W2 F3 hK2 (fun e => ⟨(hB e).1.other (by decide) (by omega) _, (hB e).2⟩)
        refine ⟨w2, ?_, F5, M5⟩
        refine e_iload dX7_best_37 rfl (pn 39 rfl ?_)
        refine e_aload_n dX7_best_39 rfl (pn 40 rfl ?_)
        refine e_iload_n dX7_best_40 rfl (pn 41 rfl ?_)
        refine c_V1 dX7_best_41 ml_X7_148 mv_X7_power (by decide) PW X1.1.1 rfl rfl (Nat.le_of_ble_eq_true rfl) (pn 44 rfl ?_)
        refine e_icmp_ge 84 dX7_best_44 (by decide) (fun c_9 => absurd c_9 (nI_ge (by omega) (by omega))) (fun _ => pn 47 rfl ?_)
        refine e_aload_n dX7_best_47 rfl (pn 48 rfl ?_)
        refine e_iload_n dX7_best_48 rfl (pn 49 rfl ?_)
        refine e_iload dX7_best_49 rfl (pn 51 rfl ?_)
        refine c_V0 dX7_best_51 ml_X7_151 mv_X7_numbers (by decide) NU X1.1.1 rfl rfl (Nat.le_of_ble_eq_true rfl) (pn 54 rfl ?_)
        refine e_aload_n dX7_best_54 rfl (pn 55 rfl ?_)
        refine c_V1 dX7_best_55 ml_X7_154 mv_X7_product (by decide) PR X2.1.1 rfl rfl (Nat.le_of_ble_eq_true rfl) (pn 58 rfl ?_)
        refine s_l [_, _, _, _, _, _, _, _] dX7_best_58 (Nat.le_of_ble_eq_true rfl) rfl (pn 60 rfl ?_)
        refine e_lload dX7_best_60 rfl (pn 62 rfl ?_)
        refine e_lload_n dX7_best_62 rfl (pn 63 rfl ?_)
        refine e_lcmp dX7_best_63 (pn 64 rfl ?_)
        refine e_if_le 78 dX7_best_64 (by decide) (fun _ => ?_) (fun c_9 => absurd ((cmp_le _ _).mpr (fun e => h0 ((lt63 (by omega) (by omega)).mp e))) c_9)
        refine s_inc [_, _, _, _, _, _, _, _] (1) dX7_best_78 (by decide) rfl (Nat.le_of_ble_eq_true rfl) rfl (pn 81 rfl ?_)
        refine e_goto 37 dX7_best_81 (by decide) ?_
        rw [nI_1]
        exact e_dr [_, _, _, _, _, _, _, _] 6 rfl K2
  obtain ⟨w2, L, F2, M2⟩ := loop (S.1 ^ n) 0 w mf lf g (by omega) hX hW (FM.rf w) (Nat.zero_le _) (fun e => absurd rfl e)
  refine ⟨w2, ?_, F2, M2⟩
  have PW := q_power hX.1.1 (show (mdS S x).1 ≤ 4 from hq.2) (n := n) hn
  rw [show pwL (mdS S x).1 n 1 = S.1 ^ n from epw] at PW
  refine cw_of (M := mX7_best) fx_X7_best (lv := [.ref 41, .int (nI s), .int (nI n), dmy, dmy, dmy, dmy, dmy]) rfl (Nat.le_of_ble_eq_true rfl) ?_
  refine e_iload_n dX7_best_0 rfl (pn 1 rfl ?_)
  refine c_S1 dX7_best_1 ml_X7_53 ms_X7_isRegister (by decide) (q_isR w _) rfl rfl (Nat.le_of_ble_eq_true rfl) (pn 4 rfl ?_)
  rw [iR1 hs]
  refine e_if_eq 30 dX7_best_4 (by decide) (fun c_9 => absurd c_9 (by decide)) (fun _ => pn 7 rfl ?_)
  refine e_iload_n dX7_best_7 rfl (pn 8 rfl ?_)
  refine e_i2l dX7_best_8 (pn 9 rfl ?_)
  refine e_lc (1) dX7_best_9 (by decide) (pn 10 rfl ?_)
  refine e_ldc2 dX7_best_10 lk_X7_146 (pn 13 rfl ?_)
  refine c_S1 dX7_best_13 ml_X7_39 ms_X7_in (by decide) (q_in w (nI n) 1 12 (by decide) (by decide)) rfl rfl (Nat.le_of_ble_eq_true rfl) (pn 16 rfl ?_)
  rw [if_pos ⟨nI_le (a := 1) hn1 (by omega), nI_le (b := 12) hn (by omega)⟩]
  refine e_if_eq 30 dX7_best_16 (by decide) (fun c_9 => absurd c_9 (by decide)) (fun _ => pn 19 rfl ?_)
  refine e_aload_n dX7_best_19 rfl (pn 20 rfl ?_)
  refine e_iload_n dX7_best_20 rfl (pn 21 rfl ?_)
  refine c_V1 dX7_best_21 ml_X7_148 mv_X7_power (by decide) PW hX.1.1 rfl rfl (Nat.le_of_ble_eq_true rfl) (pn 24 rfl ?_)
  refine e_si (4096) dX7_best_24 (by decide) (pn 27 rfl ?_)
  refine e_icmp_le 32 dX7_best_27 (by decide) (fun _ => ?_) (fun c_9 => absurd (nI_le (b := 4096) hp (by omega)) c_9)
  refine e_lc (0) dX7_best_32 (by decide) (pn 33 rfl ?_)
  refine s_ln [_, _, _, _, _, _, _, _] dX7_best_33 (Nat.le_of_ble_eq_true rfl) rfl (pn 34 rfl ?_)
  refine e_ic (0) dX7_best_34 (by decide) (pn 35 rfl ?_)
  refine s_i [_, _, _, _, _, _, _, _] dX7_best_35 (Nat.le_of_ble_eq_true rfl) rfl (pn 37 rfl ?_)
  exact L
