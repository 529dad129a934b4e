/-! RULES: new cells, calls, and the contract out of the walk -/
def nNw (own : String) (idx ci : Nat) (fs : List Value) : Prop := ∃ (C : String) (T : u_T) (N : Nat) (ty0 : Nat → FieldType), vwCl[ci]? = some (C, T, N) ∧ Cond.classLink own idx C ∈ lw_tbl ∧ Cond.instantiable C N ∈ lw_tbl ∧ Cond.initialized C ∈ lw_tbl ∧
  (∀ k, k < N → parseFieldDescriptor (T k).2.2.1 = some (ty0 k)) ∧ (∀ j, j < N → defaultValue (ty0 j) = vp_V fs j) ∧ fs.length = N ∧ ∀ b B, fs.map (rv b B) = fs
theorem RZ.size {dC : Nat → ClassId} {dI : Nat → Nat → Nat} {cI cJ cR : ClassId} {b B : Nat} {w : Wd} {H : Heap} (h : RZ dC dI cI cJ cR b B w H) : rv b B (.ref w.length) = .ref H.size := by
  rw [rv_ref (Nat.ne_of_gt h.pos), h.2.1]
theorem va_S.grow {A : Nat → Prop} {H0 H H1 : Heap} {locs : List Loc} (h : va_S A H0 H locs) (z : H1.size = H.size + 1) (oq : ∀ q : Nat, q < H.size → H1[q]? = H[q]?) : va_S A H0 H1 locs :=
  ⟨Nat.le_trans h.1 (by omega), fun x h1 h2 => (oq x (Nat.lt_of_lt_of_le h1 h.1)).trans (h.2.1 x h1 h2), h.2.2⟩
theorem e_new {M : Mt} {sc : Option (Nat × (Nat → Int32))} {pc : Nat} {lv st : List Value} {w : Wd} {r : Option Value} {w' : Wd} {idx ci : Nat} {fs : List Value} (hd : decode M.2.2.1 pc = .ok (.new idx, 3)) (hf : nNw M.1 idx ci fs)
    (kk : EW M sc (pc + 3) lv (.ref w.length :: st) (w ++ [oB ci fs]) r w') : EW M sc pc lv st w r w' := by
  obtain ⟨C, T, N, ty0, hc, h1, h2, h3, h4, h5, h6, h7⟩ := hf
  have z1 : (w ++ [oB ci fs]).length = w.length + 1 := by simp
  have z2 : tot (w ++ [oB ci fs]) = tot w + N := by rw [tot_app]; simp [tot, szE, h6]
  obtain ⟨k1, k2⟩ := kk
  rw [z1, z2] at k1 k2
  refine ⟨⟨by omega, by omega⟩, ?_⟩
  intro p l e R s m args below meth c Z dC dI cI cJ cR b B n0 t0 hC hn ht H locs ls hR hS hL
  have hts := hC.2.2.2.2.1
  have hrm := hC.2.2.2.2.2.2.2.2.1
  have hKn := hC.2.2.2.2.2.1.1.1 ci _ hc
  refine W.newcK hC.1 hC.2.1 hC.2.2.2.1 (hts _ (TG_in h1 rfl)) (hts _ (TG_in h2 rfl)) (hts _ (TG_in h3 rfl)) rfl hd (by omega) (by omega) hKn.2.1 rfl fun H1 kC hkC e1 e2 e3 => ?_
  have K := k2 p l e R s m args below meth c Z dC dI cI cJ cR b B n0 t0 hC (by omega) (by omega) H1 locs ls (hR.push (e := oB ci fs) (by
    show va_at _ _ (H.size, .inr (ci, fs.map (rv b B))) H1
    rw [h7]
    exact ⟨_, hc, (u_born ty0 hts (cls_ok hc).1 hKn hkC e1 h4).to h5⟩) e2 e3) (hS.grow e2 e3) hL
  have K : W p l e R s m args below meth c H1 locs (w.length + 1 - n0) (tot w + N - t0) Z (F0 m (pc + 3) ls (rv b B (.ref w.length) :: st.map (rv b B))) := K
  rw [hR.size, show w.length + 1 - n0 = w.length - n0 + 1 by omega, show tot w + N - t0 = tot w - t0 + N by omega] at K
  exact K
theorem e_newI {M : Mt} {sc : Option (Nat × (Nat → Int32))} {pc : Nat} {lv st : List Value} {w : Wd} {r : Option Value} {w' : Wd} {j : Int32} (n : Nat) (hd : decode M.2.2.1 pc = .ok (.newarray .int, 2)) (hj : j = nI n) (hn9 : n ≤ 1000000) (hcl : Cond.arrayClass .int ∈ lw_tbl)
    (kk : EW M sc (pc + 2) lv (.ref w.length :: st) (w ++ [aI n (fun _ => 0)]) r w') : EW M sc pc lv (.int j :: st) w r w' := by
  have z1 : (w ++ [aI n (fun _ => 0)]).length = w.length + 1 := by simp
  have z2 : tot (w ++ [aI n (fun _ => 0)]) = tot w + n := by rw [tot_app]; simp [tot, szE]
  obtain ⟨k1, k2⟩ := kk
  rw [z1, z2] at k1 k2
  refine ⟨⟨by omega, by omega⟩, ?_⟩
  intro p l e R s m args below meth c Z dC dI cI cJ cR b B n0 t0 hC hn ht H locs ls hR hS hL
  have hts := hC.2.2.2.2.1
  have hrm := hC.2.2.2.2.2.2.2.2.1
  subst hj
  refine va_newaK (atype := .int) hC.1 hC.2.1 (hts _ (TG_in hcl rfl)) rfl hd rfl (nI_pos (by omega)) (nI_clamp (by omega)) (by show n * 4 ≤ _; omega) (by omega) (by omega) rfl fun H1 cA e1 e2 e3 hAr hNm => ?_
  have hcA : cA = cI := Option.some.inj (hNm.symm.trans (hC.2.2.2.2.2.1.1.2 0 _ rfl).2)
  subst hcA
  have K := k2 p l e R s m args below meth c Z dC dI cA cJ cR b B n0 t0 hC (by omega) (by omega) H1 locs ls (hR.push (e := aI n (fun _ => 0)) e1 e2 e3) (hS.grow e2 e3) hL
  have K : W p l e R s m args below meth c H1 locs (w.length + 1 - n0) (tot w + n - t0) Z (F0 m (pc + 2) ls (rv b B (.ref w.length) :: st.map (rv b B))) := K
  rw [hR.size, show w.length + 1 - n0 = w.length - n0 + 1 by omega, show tot w + n - t0 = tot w - t0 + n by omega] at K
  exact K
theorem e_newJ {M : Mt} {sc : Option (Nat × (Nat → Int32))} {pc : Nat} {lv st : List Value} {w : Wd} {r : Option Value} {w' : Wd} {j : Int32} (n : Nat) (hd : decode M.2.2.1 pc = .ok (.newarray .long, 2)) (hj : j = nI n) (hn9 : n ≤ 1000000) (hcl : Cond.arrayClass .long ∈ lw_tbl)
    (kk : EW M sc (pc + 2) lv (.ref w.length :: st) (w ++ [aJ n (fun _ => 0)]) r w') : EW M sc pc lv (.int j :: st) w r w' := by
  have z1 : (w ++ [aJ n (fun _ => 0)]).length = w.length + 1 := by simp
  have z2 : tot (w ++ [aJ n (fun _ => 0)]) = tot w + n := by rw [tot_app]; simp [tot, szE]
  obtain ⟨k1, k2⟩ := kk
  rw [z1, z2] at k1 k2
  refine ⟨⟨by omega, by omega⟩, ?_⟩
  intro p l e R s m args below meth c Z dC dI cI cJ cR b B n0 t0 hC hn ht H locs ls hR hS hL
  have hts := hC.2.2.2.2.1
  have hrm := hC.2.2.2.2.2.2.2.2.1
  subst hj
  refine va_newaK (atype := .long) hC.1 hC.2.1 (hts _ (TG_in hcl rfl)) rfl hd rfl (nI_pos (by omega)) (nI_clamp (by omega)) (by show n * 8 ≤ _; omega) (by omega) (by omega) rfl fun H1 cA e1 e2 e3 hAr hNm => ?_
  have hcA : cA = cJ := Option.some.inj (hNm.symm.trans (hC.2.2.2.2.2.1.1.2 1 _ rfl).2)
  subst hcA
  have K := k2 p l e R s m args below meth c Z dC dI cI cA cR b B n0 t0 hC (by omega) (by omega) H1 locs ls (hR.push (e := aJ n (fun _ => 0)) e1 e2 e3) (hS.grow e2 e3) hL
  have K : W p l e R s m args below meth c H1 locs (w.length + 1 - n0) (tot w + n - t0) Z (F0 m (pc + 2) ls (rv b B (.ref w.length) :: st.map (rv b B))) := K
  rw [hR.size, show w.length + 1 - n0 = w.length - n0 + 1 by omega, show tot w + n - t0 = tot w - t0 + n by omega] at K
  exact K
theorem e_newR {M : Mt} {sc : Option (Nat × (Nat → Int32))} {pc idx : Nat} {lv st : List Value} {w : Wd} {r : Option Value} {w' : Wd} {j : Int32} (n : Nat) (hd : decode M.2.2.1 pc = .ok (.anewarray idx, 3)) (hj : j = nI n) (hn9 : n ≤ 1000000) (hcl : Cond.classLink M.1 idx RX4 ∈ lw_tbl)
    (kk : EW M sc (pc + 3) lv (.ref w.length :: st) (w ++ [aR n (fun _ => none)]) r w') : EW M sc pc lv (.int j :: st) w r w' := by
  have z1 : (w ++ [aR n (fun _ => none)]).length = w.length + 1 := by simp
  have z2 : tot (w ++ [aR n (fun _ => none)]) = tot w + n := by rw [tot_app]; simp [tot, szE]
  obtain ⟨k1, k2⟩ := kk
  rw [z1, z2] at k1 k2
  refine ⟨⟨by omega, by omega⟩, ?_⟩
  intro p l e R s m args below meth c Z dC dI cI cJ cR b B n0 t0 hC hn ht H locs ls hR hS hL
  have hts := hC.2.2.2.2.1
  have hrm := hC.2.2.2.2.2.2.2.2.1
  subst hj
  have hcn : (nI n).toNatClampNeg = n := nI_clamp (by omega)
  refine W.anew hC.1 hC.2.1 hC.2.2.2.1 (hts _ (TG_in hcl rfl)) (va_AO.use hC.2.2.2.2.2.1.2.2) rfl hd rfl (nI_pos (by omega)) (by rw [hcn]; omega) (by omega) (by rw [hcn]; omega) fun cA kA comp f1 f2 f3 f4 => ?_
  rw [hcn]
  generalize hH1 : H.push ({ cls := cA, slots := Array.replicate n .null, vm := .none } : Cell) = H1
  have e2 : H1.size = H.size + 1 := by rw [← hH1, Array.size_push]
  have e1 : H1[H.size]? = some (arrV cA n (fun _ => .null)) := by rw [← hH1, Array.getElem?_push_size, ← arrV_new]
  have e3 : ∀ q : Nat, q < H.size → H1[q]? = H[q]? := fun q hq => by rw [← hH1, Array.getElem?_push, if_neg (Nat.ne_of_lt hq)]
  obtain ⟨-, -, -, -, -, g4⟩ := (hC.2.2.2.2.2.1.1.2 2 _ rfl).2
  have hcA : cA = cR := Option.some.inj (f1.symm.trans g4)
  subst hcA
  have K := k2 p l e R s m args below meth c Z dC dI cI cJ cA b B n0 t0 hC (by omega) (by omega) H1 locs ls (hR.push (e := aR n (fun _ => none)) e1 e2 e3) (hS.grow e2 e3) hL
  have K : W p l e R s m args below meth c H1 locs (w.length + 1 - n0) (tot w + n - t0) Z (F0 m (pc + 3) ls (rv b B (.ref w.length) :: st.map (rv b B))) := K
  rw [hR.size, show w.length + 1 - n0 = w.length - n0 + 1 by omega, show tot w + n - t0 = tot w - t0 + n by omega] at K
  exact K
/-- Object's own constructor -/
theorem e_oinit {M : Mt} {sc : Option (Nat × (Nat → Int32))} {pc idx i : Nat} {lv st : List Value} {w : Wd} {r : Option Value} {w' : Wd} (hd : decode M.2.2.1 pc = .ok (.invokespecial idx, 3)) (h1 : Cond.methodLink M.1 idx objectInit ∈ lw_tbl) (h2 : Cond.instanceMethod objectInit ∈ lw_tbl) (h3 : Cond.code objectInit ⟨#[0xb1]⟩ 1 none ∈ lw_tbl) (hdp : 1 ≤ M.2.2.2.2.2) (hsum : (st.map Value.category).sum ≤ 8)
    (k : EW M sc (pc + 3) lv st w r w') : EW M sc pc lv (.ref i :: st) w r w' := by
  refine ⟨k.1, ?_⟩
  intro p l e R s m args below meth c Z dC dI cI cJ cR b B n0 t0 hC hn ht H locs ls hR hS hL
  have hts := hC.2.2.2.2.1
  have hrm := hC.2.2.2.2.2.2.2.2.1
  have hcs : ((st.map (rv b B)).map fun v => v.category).sum ≤ 8 := by
    rw [List.map_map, show ((fun v : Value => v.category) ∘ rv b B) = Value.category from funext (rv_cat b B)]; exact hsum
  exact W.objInit hC.1 hC.2.1 hC.2.2.2.1 (hts _ (TG_in h1 rfl)) (hts _ (TG_in h2 rfl)) (hts _ (TG_in h3 rfl)) rfl (by rw [hC.2.2.1]; exact hL.1) rfl hd (by omega) (by have := lv_room (m := m) (pc := pc) (ls := ls) (rest := (Value.ref i :: st).map (rv b B)) hcs; omega) (k.2 p l e R s m args below meth c Z dC dI cI cJ cR b B n0 t0 hC hn ht H locs ls hR hS hL)
/-- what is told of a method that is called -/
def mFx (M : Mt) (n : Nat) : Prop := Cond.code M.2.1 M.2.2.1 M.2.2.2.1 M.2.2.2.2.1 ∈ lw_tbl ∧ Cond.initialized M.2.1.cls ∈ lw_tbl ∧ (M.2.1.cls ≠ "java/lang/invoke/MethodHandle" ∧ M.2.1.cls ≠ "java/lang/invoke/VarHandle" ∧ (parseMethodDescriptor M.2.1.desc).map (fun d => d.parameters.length) = some n) ∧ M.2.2.2.1 ≤ 21 ∧ plainName M.2.1.cls = true ∧ M.1 = M.2.1.cls
def mLk (own : String) (idx : Nat) (y : MethodName) : Prop := Cond.methodLink own idx y ∈ lw_tbl ∨ ∃ h, Cond.methodLinkNest own idx y h ∈ lw_tbl
section XCALL
variable {p : Program} {l : Launch} {e : Env} {R : Room} {s : State} {m : MethodId} {args : Array Value} {below : List Frame} {meth : Method} {c : Code} {H : Heap} {locs : List Loc} {cells slots : Nat} {Z : State → Prop}
theorem x_call {dC : Nat → ClassId} {dI : Nat → Nat → Nat} {cI cJ cR : ClassId} {b B pc mc ms : Nat} {ls : Array Slot} {rest st0 : List Value} {a : Array Value} {r1 : Option Value} {w1 : Wd} (hr : va_Run p l e R s m args below meth c H locs cells slots mc ms (F0 m pc ls st0) rest (QX dC dI cI cJ cR b B r1 w1 a) (fun q => B < q)) (hS : va_S (fun q => B < q) s.heap H locs)
    (kk : ∀ (H1 : Heap) (locs1 : List Loc), RZ dC dI cI cJ cR b B w1 H1 → va_S (fun q => B < q) s.heap H1 locs1 → W p l e R s m args below meth c H1 locs1 (cells + mc) (slots + ms) Z (F0 m (pc + 3) ls ((r1.map (rv b B)).toList ++ rest))) : W p l e R s m args below meth c H locs cells slots Z (F0 m pc ls st0) := by
  intro T hT X
  obtain ⟨v, st₀, t, T', L, h0, X', hL, e1, e2, ⟨⟨hv, hp⟩, hz, hk⟩, st⟩ := hr T hT X
  have hv := Outcome.returned.inj hv
  subst hv
  rw [h0] at hz hk
  obtain ⟨t2, a1, b1⟩ := kk T'.heap (locs ++ L) (by rw [e1]; exact hp)
    ⟨Nat.le_trans hS.1 (by rw [e1]; exact hz), fun q h1 h2 => by rw [e1, hk q (Nat.lt_of_lt_of_le h1 hS.1) h2]; exact hS.2.1 q h1 h2, fun q hq => by
      rcases List.mem_append.mp hq with h | h
      · exact hS.2.2 q h
      · exact hL q h⟩ T' rfl X'
  exact ⟨t2, st t2 a1, b1⟩
end XCALL
theorem PX_blind {dC : Nat → ClassId} {dI : Nat → Nat → Nat} {cI cJ cR : ClassId} {b B : Nat} {As : List Value} {w : Wd} : FrameBlind (PX dC dI cI cJ cR b B As w) := fun a U g mk h => ⟨h.1, h.2.1, h.2.2.1, h.2.2.2.same⟩
theorem pay_M {M : Mt} {n : Nat} (hf : mFx M n) {args : Array Value} {s : State} (hts : ∀ w ∈ TG, w.before args s = true) : ∀ w ∈ wsO M, ∀ (a' : Array Value) (U : State), s.WarmedH U.vm → w.before a' U = true := by
  refine pay_in hts (fun w hw => ?_)
  rcases List.mem_cons.mp hw with h | h
  · subst h
    exact ⟨TG_in hf.1 rfl, good_of_word rfl⟩
  · exact ⟨h, good_of_word (TG_good h)⟩
theorem sum_rv {st : List Value} (b B : Nat) (h : (st.map Value.category).sum ≤ 8) : ((st.map (rv b B)).map fun v => v.category).sum ≤ 8 := by
  rw [List.map_map, show ((fun v : Value => v.category) ∘ rv b B) = Value.category from funext (rv_cat b B)]; exact h
theorem map_rev (b B : Nat) (As : List Value) (x : List Value) : (As.reverse ++ x).map (rv b B) = (As.map (rv b B)).reverse ++ x.map (rv b B) := by simp
theorem opt_rv (b B : Nat) (r1 : Option Value) (rest : List Value) : (r1.toList ++ rest).map (rv b B) = (r1.map (rv b B)).toList ++ rest.map (rv b B) := by cases r1 <;> simp
theorem sig_len {n : Nat} {d : String} (h : (parseMethodDescriptor d).map (fun d => d.parameters.length) = some n) : ∀ sig, parseMethodDescriptor d = some sig → n = sig.parameters.length := fun sig h2 => by
  rw [h2] at h
  exact (Option.some.inj h).symm
/-- a call of an instance method: its receiver's class is known -/
theorem e_callV {M M' : Mt} {sc : Option (Nat × (Nat → Int32))} {pc idx i ci n : Nat} {lv st As rest fs : List Value} {w w1 : Wd} {r r1 : Option Value} {w' : Wd} {T : u_T} {N : Nat} (hd : decode M.2.2.1 pc = .ok (.invokevirtual idx, 3)) (hl : mLk M.1 idx M'.2.1) (hf : mFx M' n) (hi1 : Cond.instanceMethod M'.2.1 ∈ lw_tbl) (hi2 : Cond.selects M'.2.1.cls M'.2.1 M'.2.1 ∈ lw_tbl) (hcl : vwCl[ci]? = some (M'.2.1.cls, T, N)) (hdp : M'.2.2.2.2.2 + 1 ≤ M.2.2.2.2.2)
    (hc : CW M' (.ref i :: As) w r1 w1) (hw : w[i]? = some (oB ci fs)) (hst : st = As.reverse ++ .ref i :: rest) (hlen : As.length = n) (hsum : (rest.map Value.category).sum ≤ 8) (kk : EW M sc (pc + 3) lv (r1.toList ++ rest) w1 r w') : EW M sc pc lv st w r w' := by
  obtain ⟨k1, k2⟩ := kk
  obtain ⟨c1, c2⟩ := hc
  refine ⟨⟨by omega, by omega⟩, ?_⟩
  intro p l e R s m args below meth c Z dC dI cI cJ cR b B n0 t0 hC hn ht H locs ls hR hS hL
  have hts := hC.2.2.2.2.1
  have hrm := hC.2.2.2.2.2.2.2.2.1
  have hMet := c2 l dC dI cI cJ cR b B
  obtain ⟨hi, hat⟩ := hR.obj hw
  have hrec := va_recv hC.2.2.2.2.2.1.1 (P1 hat) hcl (q0 := 0) rfl
  have hpre : PreV s H M'.2.1.cls (B + i) (PX dC dI cI cJ cR b B (.ref i :: As) w) (As.map (rv b B)) := ⟨PX_blind, hrec, fun U hU hW => ⟨by rw [List.map_cons, rv_ref hi], by rw [hU]; exact hR, by rw [hU, hR.2.1]; have := hR.pos; omega, hC.2.2.2.2.2.1.warm hW⟩⟩
  have hstk : (F0 m pc ls (st.map (rv b B))).stack = (As.map (rv b B)).reverse ++ .ref (B + i) :: rest.map (rv b B) := by
    show st.map (rv b B) = _
    rw [hst, map_rev, List.map_cons, rv_ref hi]
  have hcode := hts _ (TG_in hf.1 rfl)
  have hini := hts _ (TG_in hf.2.1 rfl)
  have hroom : (rmO M' w w1).frames + 1 ≤ R.frames ∧ 8 + (M'.2.2.2.1 + 11) + (rmO M' w w1).locals ≤ R.locals := by
    have := hf.2.2.2.1
    constructor
    · show M'.2.2.2.2.2 + 1 ≤ _; omega
    · show 8 + (M'.2.2.2.1 + 11) + 40 * M'.2.2.2.2.2 ≤ _; omega
  have hfit : w.length - n0 + (w1.length - w.length) ≤ R.cells ∧ tot w - t0 + (tot w1 - tot w) ≤ R.slots := ⟨by omega, by omega⟩
  have hrun : va_Run p l e R s m args below meth c H locs (w.length - n0) (tot w - t0) (w1.length - w.length) (tot w1 - tot w) (F0 m pc ls (st.map (rv b B))) (rest.map (rv b B)) (QX dC dI cI cJ cR b B r1 w1 (Value.ref (B + i) :: As.map (rv b B)).toArray) (fun q => B < q) := by
    rcases hl with hl | ⟨h, hl⟩
    · exact va_runV (C := M'.2.1.cls) ⟨hC.1, hC.2.1, hC.2.2.1, hC.2.2.2.1, hts⟩ hMet ⟨⟨rfl, rfl, hroom.1, hroom.2, pay_M hf hts, List.mem_cons_self, hcode, hini, ⟨hf.2.2.1.1, hf.2.2.1.2.1⟩, sig_len hf.2.2.1.2.2, hts _ (TG_in hl rfl)⟩, hts _ (TG_in hi1 rfl), hts _ (TG_in hi2 rfl)⟩ hpre rfl (by rw [List.length_map]; exact hlen) hL.1 hstk (lv_room (sum_rv b B hsum)) hd hfit
    · exact va_runVN (C := M'.2.1.cls) (host := h) ⟨hC.1, hC.2.1, hC.2.2.1, hC.2.2.2.1, hts⟩ hMet ⟨⟨⟨rfl, rfl, hroom.1, hroom.2, pay_M hf hts, List.mem_cons_self⟩, hcode, hini, ⟨hf.2.2.1.1, hf.2.2.1.2.1⟩, sig_len hf.2.2.1.2.2, (hC.2.2.2.2.2.1.2.1 _ hl rfl).use rfl⟩, hts _ (TG_in hi1 rfl), hts _ (TG_in hi2 rfl)⟩ hpre rfl (by rw [List.length_map]; exact hlen) hL.1 hstk (lv_room (sum_rv b B hsum)) hd hfit
  refine x_call hrun hS (fun H1 locs1 hR1 hS1 => ?_)
  have K := k2 p l e R s m args below meth c Z dC dI cI cJ cR b B n0 t0 hC (by omega) (by omega) H1 locs1 ls hR1 hS1 hL
  rw [opt_rv, show w1.length - n0 = w.length - n0 + (w1.length - w.length) by omega, show tot w1 - t0 = tot w - t0 + (tot w1 - tot w) by omega] at K
  exact K
/-- a call of a static method -/
theorem e_callS {M M' : Mt} {sc : Option (Nat × (Nat → Int32))} {pc idx n : Nat} {lv st As rest : List Value} {w w1 : Wd} {r r1 : Option Value} {w' : Wd} (hd : decode M.2.2.1 pc = .ok (.invokestatic idx, 3)) (hl : mLk M.1 idx M'.2.1) (hf : mFx M' n) (hi1 : Cond.static M'.2.1 ∈ lw_tbl) (hdp : M'.2.2.2.2.2 + 1 ≤ M.2.2.2.2.2)
    (hc : CW M' As w r1 w1) (hst : st = As.reverse ++ rest) (hlen : As.length = n) (hsum : (rest.map Value.category).sum ≤ 8) (kk : EW M sc (pc + 3) lv (r1.toList ++ rest) w1 r w') : EW M sc pc lv st w r w' := by
  obtain ⟨k1, k2⟩ := kk
  obtain ⟨c1, c2⟩ := hc
  refine ⟨⟨by omega, by omega⟩, ?_⟩
  intro p l e R s m args below meth c Z dC dI cI cJ cR b B n0 t0 hC hn ht H locs ls hR hS hL
  have hts := hC.2.2.2.2.1
  have hrm := hC.2.2.2.2.2.2.2.2.1
  have hMet := c2 l dC dI cI cJ cR b B
  have hpre : PreS s H (PX dC dI cI cJ cR b B As w) (As.map (rv b B)) := ⟨PX_blind, fun U hU hW => ⟨rfl, by rw [hU]; exact hR, by rw [hU, hR.2.1]; have := hR.pos; omega, hC.2.2.2.2.2.1.warm hW⟩⟩
  have hstk : (F0 m pc ls (st.map (rv b B))).stack = (As.map (rv b B)).reverse ++ rest.map (rv b B) := by
    show st.map (rv b B) = _
    rw [hst, map_rev]
  have hcode := hts _ (TG_in hf.1 rfl)
  have hini := hts _ (TG_in hf.2.1 rfl)
  have hroom : (rmO M' w w1).frames + 1 ≤ R.frames ∧ 8 + (M'.2.2.2.1 + 11) + (rmO M' w w1).locals ≤ R.locals := by
    have := hf.2.2.2.1
    constructor
    · show M'.2.2.2.2.2 + 1 ≤ _; omega
    · show 8 + (M'.2.2.2.1 + 11) + 40 * M'.2.2.2.2.2 ≤ _; omega
  have hfit : w.length - n0 + (w1.length - w.length) ≤ R.cells ∧ tot w - t0 + (tot w1 - tot w) ≤ R.slots := ⟨by omega, by omega⟩
  have hrun : va_Run p l e R s m args below meth c H locs (w.length - n0) (tot w - t0) (w1.length - w.length) (tot w1 - tot w) (F0 m pc ls (st.map (rv b B))) (rest.map (rv b B)) (QX dC dI cI cJ cR b B r1 w1 (As.map (rv b B)).toArray) (fun q => B < q) := by
    rcases hl with hl | ⟨h, hl⟩
    · exact va_runS ⟨hC.1, hC.2.1, hC.2.2.1, hC.2.2.2.1, hts⟩ hMet ⟨⟨rfl, rfl, hroom.1, hroom.2, pay_M hf hts, List.mem_cons_self, hcode, hini, ⟨hf.2.2.1.1, hf.2.2.1.2.1⟩, sig_len hf.2.2.1.2.2, hts _ (TG_in hl rfl)⟩, hts _ (TG_in hi1 rfl)⟩ hpre rfl (by rw [List.length_map]; exact hlen) hL.1 hstk (lv_room (sum_rv b B hsum)) hd hfit
    · exact va_runSN (host := h) ⟨hC.1, hC.2.1, hC.2.2.1, hC.2.2.2.1, hts⟩ hMet ⟨⟨⟨rfl, rfl, hroom.1, hroom.2, pay_M hf hts, List.mem_cons_self⟩, hcode, hini, ⟨hf.2.2.1.1, hf.2.2.1.2.1⟩, sig_len hf.2.2.1.2.2, (hC.2.2.2.2.2.1.2.1 _ hl rfl).use rfl⟩, hts _ (TG_in hi1 rfl), trivial⟩ hpre rfl (by rw [List.length_map]; exact hlen) hL.1 hstk (lv_room (sum_rv b B hsum)) hd hfit
  refine x_call hrun hS (fun H1 locs1 hR1 hS1 => ?_)
  have K := k2 p l e R s m args below meth c Z dC dI cI cJ cR b B n0 t0 hC (by omega) (by omega) H1 locs1 ls hR1 hS1 hL
  rw [opt_rv, show w1.length - n0 = w.length - n0 + (w1.length - w.length) by omega, show tot w1 - t0 = tot w - t0 + (tot w1 - tot w) by omega] at K
  exact K
/-- a call of a constructor -/
theorem e_callI {M M' : Mt} {sc : Option (Nat × (Nat → Int32))} {pc idx i n : Nat} {lv st As rest : List Value} {w w1 : Wd} {r : Option Value} {w' : Wd} (hd : decode M.2.2.1 pc = .ok (.invokespecial idx, 3)) (hl : mLk M.1 idx M'.2.1) (hf : mFx M' n) (hi1 : Cond.instanceMethod M'.2.1 ∈ lw_tbl) (hnm : M'.2.1.name = "<init>") (hrt : M'.2.2.2.2.1 = none) (hdp : M'.2.2.2.2.2 + 1 ≤ M.2.2.2.2.2) (hi : i ≠ 0)
    (hc : CW M' (.ref i :: As) w none w1) (hst : st = As.reverse ++ .ref i :: rest) (hlen : As.length = n) (hsum : (rest.map Value.category).sum ≤ 8) (kk : EW M sc (pc + 3) lv rest w1 r w') : EW M sc pc lv st w r w' := by
  obtain ⟨k1, k2⟩ := kk
  obtain ⟨c1, c2⟩ := hc
  refine ⟨⟨by omega, by omega⟩, ?_⟩
  intro p l e R s m args below meth c Z dC dI cI cJ cR b B n0 t0 hC hn ht H locs ls hR hS hL
  have hts := hC.2.2.2.2.1
  have hrm := hC.2.2.2.2.2.2.2.2.1
  have hMet := c2 l dC dI cI cJ cR b B
  have hpre : PreS s H (PX dC dI cI cJ cR b B (.ref i :: As) w) (.ref (B + i) :: As.map (rv b B)) := ⟨PX_blind, fun U hU hW => ⟨by rw [List.map_cons, rv_ref hi], by rw [hU]; exact hR, by rw [hU, hR.2.1]; have := hR.pos; omega, hC.2.2.2.2.2.1.warm hW⟩⟩
  have hstk : (F0 m pc ls (st.map (rv b B))).stack = (As.map (rv b B)).reverse ++ .ref (B + i) :: rest.map (rv b B) := by
    show st.map (rv b B) = _
    rw [hst, map_rev, List.map_cons, rv_ref hi]
  have hcode := hts _ (TG_in hf.1 rfl)
  have hini := hts _ (TG_in hf.2.1 rfl)
  have hmem : Cond.code M'.2.1 M'.2.2.1 M'.2.2.2.1 none ∈ wsO M' := by rw [← hrt]; exact List.mem_cons_self
  rw [hrt] at hcode
  have hroom : (rmO M' w w1).frames + 1 ≤ R.frames ∧ 8 + (M'.2.2.2.1 + 11) + (rmO M' w w1).locals ≤ R.locals := by
    have := hf.2.2.2.1
    constructor
    · show M'.2.2.2.2.2 + 1 ≤ _; omega
    · show 8 + (M'.2.2.2.1 + 11) + 40 * M'.2.2.2.2.2 ≤ _; omega
  have hfit : w.length - n0 + (w1.length - w.length) ≤ R.cells ∧ tot w - t0 + (tot w1 - tot w) ≤ R.slots := ⟨by omega, by omega⟩
  have hrun : va_Run p l e R s m args below meth c H locs (w.length - n0) (tot w - t0) (w1.length - w.length) (tot w1 - tot w) (F0 m pc ls (st.map (rv b B))) (rest.map (rv b B)) (QX dC dI cI cJ cR b B none w1 (Value.ref (B + i) :: As.map (rv b B)).toArray) (fun q => B < q) := by
    rcases hl with hl | ⟨h, hl⟩
    · exact va_runI ⟨hC.1, hC.2.1, hC.2.2.1, hC.2.2.2.1, hts⟩ hMet ⟨⟨rfl, rfl, hroom.1, hroom.2, pay_M hf hts, hmem, hcode, hini, ⟨hf.2.2.1.1, hf.2.2.1.2.1⟩, sig_len hf.2.2.1.2.2, hts _ (TG_in hl rfl)⟩, hnm, hts _ (TG_in hi1 rfl)⟩ hpre rfl (by rw [List.length_map]; exact hlen) hL.1 hstk (lv_room (sum_rv b B hsum)) hd hfit
    · exact va_runIN (host := h) ⟨hC.1, hC.2.1, hC.2.2.1, hC.2.2.2.1, hts⟩ hMet ⟨⟨⟨rfl, rfl, hroom.1, hroom.2, pay_M hf hts, hmem⟩, hcode, hini, ⟨hf.2.2.1.1, hf.2.2.1.2.1⟩, sig_len hf.2.2.1.2.2, (hC.2.2.2.2.2.1.2.1 _ hl rfl).use rfl⟩, hnm, hts _ (TG_in hi1 rfl)⟩ hpre rfl (by rw [List.length_map]; exact hlen) hL.1 hstk (lv_room (sum_rv b B hsum)) hd hfit
  refine x_call hrun hS (fun H1 locs1 hR1 hS1 => ?_)
  have K := k2 p l e R s m args below meth c Z dC dI cI cJ cR b B n0 t0 hC (by omega) (by omega) H1 locs1 ls hR1 hS1 hL
  rw [show w1.length - n0 = w.length - n0 + (w1.length - w.length) by omega, show tot w1 - t0 = tot w - t0 + (tot w1 - tot w) by omega] at K
  exact K
theorem lve_len (b B : Nat) : ∀ vs : List Value, (lg_sl (vs.map (rv b B))).length = (lve vs).length
  | [] => rfl
  | u :: vs => by
    have el : lg_sl ((u :: vs).map (rv b B)) = (if u.category = 2 then [.val (rv b B u), .second] else [.val (rv b B u)]) ++ lg_sl (vs.map (rv b B)) := by simp [lg_sl, rv_cat]
    rw [el, List.length_append, lve_len b B vs, show lve (u :: vs) = if u.category = 2 then u :: dmy :: lve vs else u :: lve vs from rfl]
    by_cases hc : u.category = 2
    · rw [if_pos hc, if_pos hc]; simp; omega
    · rw [if_neg hc, if_neg hc]; simp; omega
/-- the contract out of the walk -/
theorem cw_of {M : Mt} {As lv : List Value} {w w' : Wd} {r : Option Value} {n : Nat} (hf : mFx M n) (hlv : lve As ++ List.replicate (M.2.2.2.1 - (lve As).length) dmy = lv) (hle : (lve As).length ≤ M.2.2.2.1) (hE : EW M none 0 lv [] w r w') : CW M As w r w' := by
  refine ⟨hE.1, fun l dC dI cI cJ cR b B => ?_⟩
  refine Met.ofW (cc := M.2.2.1) (maxL := M.2.2.2.1) (ret := M.2.2.2.2.1) hf.2.2.2.2.1 rfl ?_
  intro p e s m args below meth c s₁ Bd hml hv
  obtain ⟨rfl, hR, hB, hK⟩ := hv
  have hts := atoms_spec (ws := wsO M) Bd.pre
  have hown : s.vm.findClass M.1 = some m.cls := by rw [hf.2.2.2.2.2]; exact findClass_of_methodNamed Bd.named
  rw [lg_entry_eq]
  have hlen := lve_len b B As
  have hl := lv_entry (As.map (rv b B)) (n := M.2.2.2.1) (by rw [hlen]; exact hle)
  have hLH : LH b B (lg_sl (As.map (rv b B)) ++ List.replicate (M.2.2.2.1 - (lg_sl (As.map (rv b B))).length) Slot.unset).toArray M.2.2.2.1 lv := by
    refine ⟨hl.1, hl.2.1, fun i v hi => ?_⟩
    rw [← hlv] at hi
    by_cases hlt : i < (lve As).length
    · rw [List.getElem?_append_left hlt] at hi
      rcases lve_get (b := b) (B := B) As (List.replicate (M.2.2.2.1 - (lg_sl (As.map (rv b B))).length) Slot.unset) i v hi with h1 | h1
      · exact Or.inl ⟨0, h1⟩
      · exact Or.inr (by rw [List.getElem?_toArray]; exact h1)
    · rw [List.getElem?_append_right (by omega)] at hi
      exact Or.inl ⟨0, (List.mem_replicate.mp (List.mem_of_getElem? hi)).2⟩
  have hlocks := Bd.notSynchronized
  have hr := Bd.returns
  have K := hE.2 p l e (headSpec (wsO M) (rmO M w w')).room s m (As.map (rv b B)).toArray below meth c (MQ below (QX dC dI cI cJ cR b B r w') (As.map (rv b B)).toArray s (w'.length - w.length) (tot w' - tot w) (fun q => B < q)) dC dI cI cJ cR b B w.length (tot w)
    ⟨Bd.exec, Bd.bytes, hml, hown, fun w hw => hts w (List.mem_cons_of_mem _ hw), hK, fun L xs h => (by cases h), hB, ⟨Nat.le_refl _, Nat.le_refl _, Nat.le_refl _, Nat.le_refl _⟩, fun h => (name_of_methodNamed Bd.named Bd.method).1.trans h, fun H locs pc ls ins hRe hSe hd hro => ?_⟩ (Nat.le_refl _) (Nat.le_refl _) s.heap [] _ hR va_S.rf hLH
  · rw [Nat.sub_self, Nat.sub_self] at K
    exact K
  · rcases hro with ⟨rfl, ht, x, rfl⟩ | ⟨rfl, ht, x, rfl, hx⟩ | ⟨rfl, ht, x, rfl⟩ | ⟨rfl, ht, rfl⟩ | ⟨rfl, ⟨nm, ht⟩, i, rfl⟩
    · exact W.iret Bd.exec Bd.bytes (hr.trans ht) (fun t ht hW => ⟨⟨rfl, by rw [ht]; exact hRe⟩, hSe.F ht⟩) hSe.2.2 hd hlocks
    · exact W.zret Bd.exec Bd.bytes (hr.trans ht) (by show Value.int (x &&& 1) = _; rw [hx]) (fun t ht hW => ⟨⟨rfl, by rw [ht]; exact hRe⟩, hSe.F ht⟩) hSe.2.2 hd hlocks
    · exact W.lret Bd.exec Bd.bytes (hr.trans ht) (fun t ht hW => ⟨⟨rfl, by rw [ht]; exact hRe⟩, hSe.F ht⟩) hSe.2.2 hd hlocks
    · exact W.vret Bd.exec Bd.bytes (hr.trans ht) (fun t ht hW => ⟨⟨rfl, by rw [ht]; exact hRe⟩, hSe.F ht⟩) hSe.2.2 hd hlocks
    · exact W.aret Bd.exec Bd.bytes (hr.trans ht) (Or.inl ⟨nm, rfl⟩) (Or.inr ⟨_, rfl⟩) (fun t ht hW => ⟨⟨rfl, by rw [ht]; exact hRe⟩, hSe.F ht⟩) hSe.2.2 hd hlocks
