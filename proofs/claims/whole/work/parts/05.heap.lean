/-! RULES of the heap: fields, arrays, new cells -/
theorem P1 {D : va_G} {cl : List vw_C} {q : Nat × va_E} {H : Heap} (h : va_at D cl q H) : va_P D cl [q] H := fun k x hx => by
  cases k with
  | zero => cases hx; exact h
  | succ k => simp at hx
theorem u_good {C : String} {T : u_T} {N : Nat} : ∀ w ∈ u_ws C T N, goodWord w = true := fun w hw => by
  obtain ⟨k, -, rfl⟩ := List.mem_map.mp hw
  unfold u_lay
  split <;> rfl
theorem cls_ok {ci : Nat} {C : String} {T : u_T} {N : Nat} (h : vwCl[ci]? = some (C, T, N)) : (∀ w ∈ u_ws C T N, w ∈ TG) ∧ (∃ ty0 : Nat → FieldType, ∀ k, k < N → parseFieldDescriptor (T k).2.2.1 = some (ty0 k)) ∧ ∀ a, a < N → ∀ b, b < N → a ≠ b → (T a).2.1 ≠ (T b).2.1 := by
  match ci, h with
  | 0, h => cases h; exact ⟨fun w hw => TG_in (inX0 w hw) (u_good w hw), ⟨_, tyX0_ok⟩, nmX0⟩
  | 1, h => cases h; exact ⟨fun w hw => TG_in (inX1 w hw) (u_good w hw), ⟨_, tyX1_ok⟩, nmX1⟩
  | 2, h => cases h; exact ⟨fun w hw => TG_in (inX2 w hw) (u_good w hw), ⟨_, tyX2_ok⟩, nmX2⟩
  | 3, h => cases h; exact ⟨fun w hw => TG_in (inX3 w hw) (u_good w hw), ⟨_, tyX3_ok⟩, nmX3⟩
  | 4, h => cases h; exact ⟨fun w hw => TG_in (inX4 w hw) (u_good w hw), ⟨_, tyX4_ok⟩, nmX4⟩
  | 5, h => cases h; exact ⟨fun w hw => TG_in (inX5 w hw) (u_good w hw), ⟨_, tyX5_ok⟩, nmX5⟩
  | 6, h => cases h; exact ⟨fun w hw => TG_in (inX6 w hw) (u_good w hw), ⟨_, tyX6_ok⟩, nmX6⟩
  | 7, h => cases h; exact ⟨fun w hw => TG_in (inX7 w hw) (u_good w hw), ⟨_, tyX7_ok⟩, nmX7⟩
  | k + 8, h => simp [vwCl] at h
/-- a field of an object, by its link -/
def fLk (own : String) (idx ci k : Nat) : Prop := ∃ (C : String) (T : u_T) (N : Nat), vwCl[ci]? = some (C, T, N) ∧ k < N ∧
  (Cond.fieldLink own idx (T k).1 (T k).2.1 (T k).2.2.1 ∈ lw_tbl ∨ ∃ h, Cond.fieldLinkNest own idx (T k).1 (T k).2.1 (T k).2.2.1 h ∈ lw_tbl)
def fPt (own : String) (idx ci k : Nat) (ty : FieldType) : Prop := ∃ (C : String) (T : u_T) (N : Nat), vwCl[ci]? = some (C, T, N) ∧ k < N ∧ parseFieldDescriptor (T k).2.2.1 = some ty ∧ (T k).2.2.2 = false ∧
  (Cond.fieldLink own idx (T k).1 (T k).2.1 (T k).2.2.1 ∈ lw_tbl ∨ ∃ h, Cond.fieldLinkNest own idx (T k).1 (T k).2.1 (T k).2.2.1 h ∈ lw_tbl)
def fPf (own : String) (idx ci k : Nat) (ty : FieldType) : Prop := ∃ (C : String) (T : u_T) (N : Nat), vwCl[ci]? = some (C, T, N) ∧ k < N ∧ parseFieldDescriptor (T k).2.2.1 = some ty ∧ (T k).2.2.2 = true ∧ (T k).1 = own ∧
  Cond.fieldLink own idx (T k).1 (T k).2.1 (T k).2.2.1 ∈ lw_tbl
def tyV : FieldType → Value → Bool
  | .int, .int _ => true
  | .long, .long _ => true
  | .object _, .ref _ => true
  | .array _, .ref _ => true
  | _, _ => false
theorem tyV_ok {ty : FieldType} {v : Value} (b B : Nat) (h : tyV ty v = true) : narrow ty (rv b B v) = rv b B v ∧ fits ty (rv b B v) = true := by
  cases ty <;> cases v <;> first | exact ⟨rfl, rfl⟩ | simp [tyV] at h
theorem rv_ref {b B i : Nat} (h : i ≠ 0) : rv b B (.ref i) = .ref (B + i) := by
  show Value.ref (adr b B i) = _
  rw [adr_pos h]
theorem e_get {M : Mt} {sc : Option (Nat × (Nat → Int32))} {pc : Nat} {lv st : List Value} {w : Wd} {r : Option Value} {w' : Wd} {idx ci k i : Nat} {fs : List Value} {v : Value} (hd : decode M.2.2.1 pc = .ok (.getfield idx, 3)) (hf : fLk M.1 idx ci k) (hw : w[i]? = some (oB ci fs)) (hv : fs[k]? = some v)
    (kk : EW M sc (pc + 3) lv (v :: st) w r w') : EW M sc pc lv (.ref i :: st) w r w' := by
  refine ⟨kk.1, ?_⟩
  intro p l e R s m args below meth c Z dC dI cI cJ cR b B n0 t0 hC hn ht H locs ls hR hS hL
  have K := kk.2 p l e R s m args below meth c Z dC dI cI cJ cR b B n0 t0 hC hn ht H locs ls hR hS hL
  obtain ⟨hi, hat⟩ := hR.obj hw
  obtain ⟨C, T, N, hc, hk, hlk⟩ := hf
  have hv' : (fs.map (rv b B))[k]? = some (rv b B v) := by rw [List.getElem?_map, hv]; rfl
  show W p l e R s m args below meth c H locs _ _ Z (F0 m pc ls (rv b B (.ref i) :: st.map (rv b B)))
  rw [rv_ref hi]
  rcases hlk with hlk | ⟨h, hlk⟩
  · exact va_get hC.1 hC.2.1 hC.2.2.2.2.1 (cls_ok hc).1 hC.2.2.2.1 hC.2.2.2.2.2.1.1 (P1 hat) 0 rfl hc k hk (hC.2.2.2.2.1 _ (TG_in hlk rfl)) (fun _ h => h) hv' hd K
  · exact va_getN hC.1 hC.2.1 hC.2.2.2.2.1 (cls_ok hc).1 hC.2.2.2.1 hC.2.2.2.2.2.1.1 (P1 hat) 0 rfl hc k hk ((hC.2.2.2.2.2.1.2.1 _ hlk rfl).use rfl) (fun _ h => h) hv' hd K
section XPUT
variable {p : Program} {l : Launch} {e : Env} {R : Room} {s : State} {m : MethodId} {args : Array Value} {below : List Frame} {meth : Method} {c : Code} {H : Heap} {locs : List Loc} {cells slots : Nat} {Q : State → Prop}
variable {cc : ByteArray} {pc : Nat} {ls : Array Slot} {rest : List Value} {D : va_G} {cl : List vw_C} {a : Nat} {tys : List (ClassId × FieldType)}
theorem x_put (hexec : p.tables.exec = Jvm.exec) (hb : c.code = cc) {own C : String} {T : u_T} {N ci index : Nat} {Ts : List Cond} (hts : ∀ w ∈ Ts, w.before args s = true) (hin : ∀ w ∈ u_ws C T N, w ∈ Ts) (ty0 : Nat → FieldType) (hty : ∀ k, k < N → parseFieldDescriptor (T k).2.2.1 = some (ty0 k)) (hnm : ∀ a, a < N → ∀ b, b < N → a ≠ b → (T a).2.1 ≠ (T b).2.1) (hown : s.vm.findClass own = some m.cls) (hK : va_K D cl tys s) {fs : List Value} (hat : va_at D cl (a, .inr (ci, fs)) H) (hc : cl[ci]? = some (C, T, N)) (k : Nat) (hk : k < N)
    (hlink : (Cond.fieldLink own index (T k).1 (T k).2.1 (T k).2.2.1).before args s = true ∨ ∃ h, (Cond.fieldLinkNest own index (T k).1 (T k).2.1 (T k).2.2.1 h).before args s = true) (hfin : (T k).2.2.2 = false) {ty : FieldType} {v : Value} (hd : parseFieldDescriptor (T k).2.2.1 = some ty) (hn : narrow ty v = v) (hfit : fits ty v = true) (hl : k < fs.length)
    (hdg : decode cc pc = .ok (.putfield index, 3)) (kk : ∀ (H1 : Heap) (f : Nat), va_at D cl (a, .inr (ci, fs.set k v)) H1 → H1.size = H.size → (∀ q : Nat, q ≠ a → H1[q]? = H[q]?) → W p l e R s m args below meth c H1 (locs ++ [⟨a, f⟩]) cells slots Q (F0 m (pc + 3) ls rest)) : W p l e R s m args below meth c H locs cells slots Q (F0 m pc ls (v :: .ref a :: rest)) := by
  have hap := va_apart (own := own) hts hin ty0 hty hnm hK hc
  obtain ⟨r, h1, cell, q1, q2, q3, q4⟩ := hat
  have hr : r = (C, T, N) := Option.some.inj (h1.symm.trans hc)
  subst hr
  obtain ⟨hS, hfc, kC, hkC, hkind⟩ := hK.1 ci _ hc
  obtain ⟨cf, kf, fi, f, hi, hsl⟩ := hS k hk
  have hlay := hts _ (hin _ (u_in_lay hk))
  unfold u_lay at hlay
  rw [if_neg (by rw [hfin]; decide)] at hlay
  have hst := (u_facts hfc hkC (u_lays hts hin hk) hi).1
  have h6 := u_store hfc hkC hkind hlay hi hd hn hfit
  rcases hlink with hlink | ⟨h, hlink⟩
  · refine W.putK hexec hb (f := f) ⟨hown, hlink, ⟨_, _, _, hi⟩, hst⟩ (by rw [q2]; exact h6) q1 q3 (by rw [hsl]; exact k2_hasslot (q4 k hk)) rfl rfl hdg fun H' e1 e2 e3 => ?_
    rw [hsl] at e1 ⊢
    exact kk H' _ ⟨_, hc, t_OB.to (V := updV (vp_V fs) k v) ⟨_, e1, q2, q3, t_set q4 hap hk v⟩ (fun j _ => vp_updV_set hl v j)⟩ e2 e3
  · refine va_WputK hexec hb (f := f) hown hlink hi hst (by rw [q2]; exact h6) q1 q3 (by rw [hsl]; exact k2_hasslot (q4 k hk)) rfl rfl hdg fun H' e1 e2 e3 => ?_
    rw [hsl] at e1 ⊢
    exact kk H' _ ⟨_, hc, t_OB.to (V := updV (vp_V fs) k v) ⟨_, e1, q2, q3, t_set q4 hap hk v⟩ (fun j _ => vp_updV_set hl v j)⟩ e2 e3
theorem x_putF (hexec : p.tables.exec = Jvm.exec) (hb : c.code = cc) {own C : String} {T : u_T} {N ci index : Nat} {Ts : List Cond} (hts : ∀ w ∈ Ts, w.before args s = true) (hin : ∀ w ∈ u_ws C T N, w ∈ Ts) (ty0 : Nat → FieldType) (hty : ∀ k, k < N → parseFieldDescriptor (T k).2.2.1 = some (ty0 k)) (hnm : ∀ a, a < N → ∀ b, b < N → a ≠ b → (T a).2.1 ≠ (T b).2.1) (hown : s.vm.findClass own = some m.cls) (hK : va_K D cl tys s) {fs : List Value} (hat : va_at D cl (a, .inr (ci, fs)) H) (hc : cl[ci]? = some (C, T, N)) (k : Nat) (hk : k < N)
    (hlink : (Cond.fieldLink own index (T k).1 (T k).2.1 (T k).2.2.1).before args s = true) (hfin : (T k).2.2.2 = true) (hin2 : meth.name = "<init>") (hdecl : (T k).1 = own) {ty : FieldType} {v : Value} (hd : parseFieldDescriptor (T k).2.2.1 = some ty) (hn : narrow ty v = v) (hfit : fits ty v = true) (hl : k < fs.length)
    (hdg : decode cc pc = .ok (.putfield index, 3)) (kk : ∀ (H1 : Heap) (f : Nat), va_at D cl (a, .inr (ci, fs.set k v)) H1 → H1.size = H.size → (∀ q : Nat, q ≠ a → H1[q]? = H[q]?) → W p l e R s m args below meth c H1 (locs ++ [⟨a, f⟩]) cells slots Q (F0 m (pc + 3) ls rest)) : W p l e R s m args below meth c H locs cells slots Q (F0 m pc ls (v :: .ref a :: rest)) := by
  have hap := va_apart (own := own) hts hin ty0 hty hnm hK hc
  obtain ⟨r, h1, cell, q1, q2, q3, q4⟩ := hat
  have hr : r = (C, T, N) := Option.some.inj (h1.symm.trans hc)
  subst hr
  obtain ⟨hS, hfc, kC, hkC, hkind⟩ := hK.1 ci _ hc
  obtain ⟨cf, kf, fi, f, hi, hsl⟩ := hS k hk
  have hlay := hts _ (hin _ (u_in_lay hk))
  unfold u_lay at hlay
  rw [if_pos hfin] at hlay
  have hst := (u_facts hfc hkC (u_lays hts hin hk) hi).1
  have hcf : m.cls = cf := by
    obtain ⟨_, _, c', _, _, _, -, -, hf', -, -, -, hown2, -⟩ := Cond.laysFinal_spec hlay
    have e1 : c' = cf := by have := hi.symm.trans hf'; simp at this; exact this.1.symm
    rw [hdecl] at hown2
    rw [← e1]; exact Option.some.inj (hown.symm.trans hown2)
  have h6 := u_fits hfc hkC hkind (Or.inr hlay) hi hd hn hfit
  refine W.putFinK hexec hb hown hlink hi hst hcf hin2 (by rw [q2]; exact h6) q1 q3 (by rw [hsl]; exact k2_hasslot (q4 k hk)) rfl rfl hdg fun H' e1 e2 e3 => ?_
  rw [hsl] at e1 ⊢
  exact kk H' _ ⟨_, hc, t_OB.to (V := updV (vp_V fs) k v) ⟨_, e1, q2, q3, t_set q4 hap hk v⟩ (fun j _ => vp_updV_set hl v j)⟩ e2 e3
theorem x_iast (hexec : p.tables.exec = Jvm.exec) (hb : c.code = cc) (hK : va_K D cl tys s) (t0 : Nat) {cA : ClassId} {n : Nat} {f : Nat → Int32} (hat : va_at D cl (a, .inl (cA, n, .inl f)) H) (ht : tys[t0]? = some (cA, .int)) {i : Int32} {x : Int32} (hin : vp_in i n) (hdg : decode cc pc = .ok (.iastore, 1))
    (kk : ∀ (H1 : Heap) (f1 : Nat), va_at D cl (a, .inl (cA, n, .inl (va_up f i.toNatClampNeg x))) H1 → H1.size = H.size → (∀ q : Nat, q ≠ a → H1[q]? = H[q]?) → W p l e R s m args below meth c H1 (locs ++ [⟨a, f1⟩]) cells slots Q (F0 m (pc + 1) ls rest)) : W p l e R s m args below meth c H locs cells slots Q (F0 m pc ls (.int x :: .int i :: .ref a :: rest)) := by
  refine W.iast hexec hb hat ((hK.2 t0 _ ht).1 n (fun j => .int (f j))) (fun q => by cases q) (by show ¬ (i < 0 ∨ (arrV _ _ _).slots.size ≤ _); rw [arrV_size]; exact hin) rfl rfl hdg fun H1 e z oq => ?_
  refine kk H1 _ ?_ z oq
  show H1[a]? = some (vp_cell _ _)
  rw [e]
  rw [vp_cell_i, vp_cell_i, arrV_store]
  congr 2
  funext q
  by_cases hq : q = i.toNatClampNeg
  · subst hq
    simp [updV, va_up]
  · simp [updV, va_up, hq]
theorem x_last (hexec : p.tables.exec = Jvm.exec) (hb : c.code = cc) (hK : va_K D cl tys s) (t0 : Nat) {cA : ClassId} {n : Nat} {f : Nat → Int64} (hat : va_at D cl (a, .inl (cA, n, .inr (.inl f))) H) (ht : tys[t0]? = some (cA, .long)) {i : Int32} {x : Int64} (hin : vp_in i n) (hdg : decode cc pc = .ok (.lastore, 1))
    (kk : ∀ (H1 : Heap) (f1 : Nat), va_at D cl (a, .inl (cA, n, .inr (.inl (va_up f i.toNatClampNeg x)))) H1 → H1.size = H.size → (∀ q : Nat, q ≠ a → H1[q]? = H[q]?) → W p l e R s m args below meth c H1 (locs ++ [⟨a, f1⟩]) cells slots Q (F0 m (pc + 1) ls rest)) : W p l e R s m args below meth c H locs cells slots Q (F0 m pc ls (.long x :: .int i :: .ref a :: rest)) := by
  refine W.last hexec hb hat ((hK.2 t0 _ ht).1 n (fun j => .long (f j))) (fun q => by cases q) (by show ¬ (i < 0 ∨ (arrV _ _ _).slots.size ≤ _); rw [arrV_size]; exact hin) rfl rfl hdg fun H1 e z oq => ?_
  refine kk H1 _ ?_ z oq
  show H1[a]? = some (vp_cell _ _)
  rw [e]
  rw [vp_cell_l, vp_cell_l, arrV_store]
  congr 2
  funext q
  by_cases hq : q = i.toNatClampNeg
  · subst hq
    simp [updV, va_up]
  · simp [updV, va_up, hq]
theorem x_aast (hexec : p.tables.exec = Jvm.exec) (hb : c.code = cc) (hK : va_K D cl tys s) (t0 ci : Nat) {cA : ClassId} {q9 : vw_C} {n v : Nat} {vs : List Value} {f : Nat → Option Nat} (hat : va_at D cl (a, .inl (cA, n, .inr (.inr (.inr (.inr f))))) H) (ht : tys[t0]? = some (cA, .object q9.1)) (hv : va_at D cl (v, .inr (ci, vs)) H) (hc : cl[ci]? = some q9) {i : Int32} (hin : vp_in i n) (hdg : decode cc pc = .ok (.aastore, 1))
    (kk : ∀ (H1 : Heap) (f1 : Nat), va_at D cl (a, .inl (cA, n, .inr (.inr (.inr (.inr (va_up f i.toNatClampNeg (some v))))))) H1 → H1.size = H.size → (∀ q : Nat, q ≠ a → H1[q]? = H[q]?) → W p l e R s m args below meth c H1 (locs ++ [⟨a, f1⟩]) cells slots Q (F0 m (pc + 1) ls rest)) : W p l e R s m args below meth c H locs cells slots Q (F0 m pc ls (.ref v :: .int i :: .ref a :: rest)) := by
  have hlt : i.toNatClampNeg < n := Nat.not_le.mp fun q => hin (Or.inr q)
  have h0 : ¬ i < 0 := fun q => hin (Or.inl q)
  obtain ⟨r', hr', cellV, g1, g2, g3, -⟩ := hv
  have hcls := (hK.1 ci q9 hc).2
  obtain ⟨kA, comp, k1, k2, k3, -⟩ := (hK.2 t0 _ ht).2
  have hcomp : comp = D.1 ci := Option.some.inj (k3.symm.trans hcls.1)
  subst hcomp
  obtain ⟨kC, hkC, -⟩ := id hcls.2
  refine W.aast hexec hb hat (fun q h => by cases h) (fun h => by cases h) k1 k2 rfl hkC ⟨h0, by show _ < (arrV _ _ _).slots.size; rw [arrV_size]; exact hlt⟩ g1 (fun q h => by rw [g3] at h; cases h) (by rw [g2]; exact hkC) (by rw [g2]; exact va_assign hcls) rfl rfl hdg fun H1 e z oq => ?_
  refine kk H1 _ ?_ z oq
  show H1[a]? = some (vp_cell _ _)
  rw [e]
  rw [vp_cell_q, vp_cell_q, arrV_store]
  congr 2
  funext q
  by_cases hq : q = i.toNatClampNeg
  · subst hq
    simp [updV, va_up, va_rf]
  · simp [updV, va_up, hq]
end XPUT
theorem tot_setL {w : Wd} {i : Nat} {e0 e : Cel} (h : w[i]? = some e0) (hs : szE e = szE e0) : (w.set i e).length = w.length ∧ tot (w.set i e) = tot w := ⟨List.length_set, tot_set w i e0 e h hs⟩
theorem e_put {M : Mt} {sc : Option (Nat × (Nat → Int32))} {pc : Nat} {lv st : List Value} {w : Wd} {r : Option Value} {w' : Wd} {idx ci k i : Nat} {ty : FieldType} {fs : List Value} {v : Value} (hd : decode M.2.2.1 pc = .ok (.putfield idx, 3)) (hf : fPt M.1 idx ci k ty) (hw : w[i]? = some (oB ci fs)) (hv : tyV ty v = true) (hl : k < fs.length)
    (kk : EW M sc (pc + 3) lv st (w.set i (oB ci (fs.set k v))) r w') : EW M sc pc lv (v :: .ref i :: st) w r w' := by
  have hz := tot_setL (e := oB ci (fs.set k v)) hw (by simp [szE])
  obtain ⟨k1, k2⟩ := kk
  rw [hz.1, hz.2] at k1 k2
  refine ⟨k1, ?_⟩
  intro p l e R s m args below meth c Z dC dI cI cJ cR b B n0 t0 hC hn ht H locs ls hR hS hL
  obtain ⟨hi, hat⟩ := hR.obj hw
  obtain ⟨C, T, N, hc, hk, hp, hfin, hlk⟩ := hf
  obtain ⟨c1, ⟨ty0, c2⟩, c3⟩ := cls_ok hc
  obtain ⟨v1, v2⟩ := tyV_ok b B hv
  show W p l e R s m args below meth c H locs _ _ Z (F0 m pc ls (rv b B v :: rv b B (.ref i) :: st.map (rv b B)))
  rw [rv_ref hi]
  refine x_put hC.1 hC.2.1 hC.2.2.2.2.1 c1 ty0 c2 c3 hC.2.2.2.1 hC.2.2.2.2.2.1.1 hat hc k hk (hlk.elim (fun h => Or.inl (hC.2.2.2.2.1 _ (TG_in h rfl))) (fun ⟨h, q⟩ => Or.inr ⟨h, (hC.2.2.2.2.2.1.2.1 _ q rfl).use rfl⟩)) hfin hp v1 v2 (by rw [List.length_map]; exact hl) hd (fun H1 f a1 a2 a3 => ?_)
  exact k2 p l e R s m args below meth c Z dC dI cI cJ cR b B n0 t0 hC hn ht H1 _ ls (hR.set hi (by rw [← List.map_set] at a1; exact a1) a2 a3) (hS.put a2 a3 (by show B < B + i; omega)) hL
theorem e_putF {M : Mt} {sc : Option (Nat × (Nat → Int32))} {pc : Nat} {lv st : List Value} {w : Wd} {r : Option Value} {w' : Wd} {idx ci k i : Nat} {ty : FieldType} {fs : List Value} {v : Value} (hd : decode M.2.2.1 pc = .ok (.putfield idx, 3)) (hf : fPf M.1 idx ci k ty) (hini : M.2.1.name = "<init>") (hw : w[i]? = some (oB ci fs)) (hv : tyV ty v = true) (hl : k < fs.length)
    (kk : EW M sc (pc + 3) lv st (w.set i (oB ci (fs.set k v))) r w') : EW M sc pc lv (v :: .ref i :: st) w r w' := by
  have hz := tot_setL (e := oB ci (fs.set k v)) hw (by simp [szE])
  obtain ⟨k1, k2⟩ := kk
  rw [hz.1, hz.2] at k1 k2
  refine ⟨k1, ?_⟩
  intro p l e R s m args below meth c Z dC dI cI cJ cR b B n0 t0 hC hn ht H locs ls hR hS hL
  obtain ⟨hi, hat⟩ := hR.obj hw
  obtain ⟨C, T, N, hc, hk, hp, hfin, hdecl, hlk⟩ := hf
  obtain ⟨c1, ⟨ty0, c2⟩, c3⟩ := cls_ok hc
  obtain ⟨v1, v2⟩ := tyV_ok b B hv
  show W p l e R s m args below meth c H locs _ _ Z (F0 m pc ls (rv b B v :: rv b B (.ref i) :: st.map (rv b B)))
  rw [rv_ref hi]
  refine x_putF hC.1 hC.2.1 hC.2.2.2.2.1 c1 ty0 c2 c3 hC.2.2.2.1 hC.2.2.2.2.2.1.1 hat hc k hk (hC.2.2.2.2.1 _ (TG_in hlk rfl)) hfin (hC.2.2.2.2.2.2.2.2.2.1 hini) hdecl hp v1 v2 (by rw [List.length_map]; exact hl) hd (fun H1 f a1 a2 a3 => ?_)
  exact k2 p l e R s m args below meth c Z dC dI cI cJ cR b B n0 t0 hC hn ht H1 _ ls (hR.set hi (by rw [← List.map_set] at a1; exact a1) a2 a3) (hS.put a2 a3 (by show B < B + i; omega)) hL
theorem nI_vp {j : Int32} {k n : Nat} (hj : j = nI k) (hk : k < n) (hn : n < 2 ^ 31) : vp_in j n ∧ j.toNatClampNeg = k := by
  subst hj
  exact ⟨vp_in_nI hk hn, nI_clamp (by omega)⟩
theorem e_iald {M : Mt} {sc : Option (Nat × (Nat → Int32))} {pc : Nat} {lv st : List Value} {w : Wd} {r : Option Value} {w' : Wd} {i n : Nat} {f : Nat → Int32} {j : Int32} (k : Nat) (hd : decode M.2.2.1 pc = .ok (.iaload, 1)) (hw : w[i]? = some (aI n f)) (hj : j = nI k) (hk : k < n) (hn9 : n < 2 ^ 31)
    (kk : EW M sc (pc + 1) lv (.int (f k) :: st) w r w') : EW M sc pc lv (.int j :: .ref i :: st) w r w' := by
  refine ⟨kk.1, ?_⟩
  intro p l e R s m args below meth c Z dC dI cI cJ cR b B n0 t0 hC hn ht H locs ls hR hS hL
  have K := kk.2 p l e R s m args below meth c Z dC dI cI cJ cR b B n0 t0 hC hn ht H locs ls hR hS hL
  obtain ⟨hi, hat⟩ := hR.arI hw
  obtain ⟨q1, q2⟩ := nI_vp hj hk hn9
  show W p l e R s m args below meth c H locs _ _ Z (F0 m pc ls (.int j :: rv b B (.ref i) :: st.map (rv b B)))
  rw [rv_ref hi]
  refine va_iald hC.1 hC.2.1 hC.2.2.2.2.2.1.1 (P1 hat) 0 0 rfl rfl q1 hd ?_
  rw [q2]
  exact K
theorem e_lald {M : Mt} {sc : Option (Nat × (Nat → Int32))} {pc : Nat} {lv st : List Value} {w : Wd} {r : Option Value} {w' : Wd} {i n : Nat} {f : Nat → Int64} {j : Int32} (k : Nat) (hd : decode M.2.2.1 pc = .ok (.laload, 1)) (hw : w[i]? = some (aJ n f)) (hj : j = nI k) (hk : k < n) (hn9 : n < 2 ^ 31)
    (kk : EW M sc (pc + 1) lv (.long (f k) :: st) w r w') : EW M sc pc lv (.int j :: .ref i :: st) w r w' := by
  refine ⟨kk.1, ?_⟩
  intro p l e R s m args below meth c Z dC dI cI cJ cR b B n0 t0 hC hn ht H locs ls hR hS hL
  have K := kk.2 p l e R s m args below meth c Z dC dI cI cJ cR b B n0 t0 hC hn ht H locs ls hR hS hL
  obtain ⟨hi, hat⟩ := hR.arJ hw
  obtain ⟨q1, q2⟩ := nI_vp hj hk hn9
  show W p l e R s m args below meth c H locs _ _ Z (F0 m pc ls (.int j :: rv b B (.ref i) :: st.map (rv b B)))
  rw [rv_ref hi]
  refine va_lald hC.1 hC.2.1 hC.2.2.2.2.2.1.1 (P1 hat) 0 1 rfl rfl q1 hd ?_
  rw [q2]
  exact K
theorem e_aald {M : Mt} {sc : Option (Nat × (Nat → Int32))} {pc : Nat} {lv st : List Value} {w : Wd} {r : Option Value} {w' : Wd} {i n x : Nat} {f : Nat → Option Nat} {j : Int32} (k : Nat) (hd : decode M.2.2.1 pc = .ok (.aaload, 1)) (hw : w[i]? = some (aR n f)) (hj : j = nI k) (hk : k < n) (hn9 : n < 2 ^ 31) (hx : f k = some x)
    (kk : EW M sc (pc + 1) lv (.ref x :: st) w r w') : EW M sc pc lv (.int j :: .ref i :: st) w r w' := by
  refine ⟨kk.1, ?_⟩
  intro p l e R s m args below meth c Z dC dI cI cJ cR b B n0 t0 hC hn ht H locs ls hR hS hL
  have K := kk.2 p l e R s m args below meth c Z dC dI cI cJ cR b B n0 t0 hC hn ht H locs ls hR hS hL
  obtain ⟨hi, hat⟩ := hR.arR (by omega) hw
  obtain ⟨q1, q2⟩ := nI_vp hj hk hn9
  show W p l e R s m args below meth c H locs _ _ Z (F0 m pc ls (.int j :: rv b B (.ref i) :: st.map (rv b B)))
  rw [rv_ref hi]
  refine va_aldq hC.1 hC.2.1 hC.2.2.2.2.2.1.1 (P1 hat) 0 2 rfl rfl q1 hd ?_
  rw [q2]
  simp only [hx]
  exact K
theorem e_alenI {M : Mt} {sc : Option (Nat × (Nat → Int32))} {pc : Nat} {lv st : List Value} {w : Wd} {r : Option Value} {w' : Wd} {i n : Nat} {f : Nat → Int32} (hd : decode M.2.2.1 pc = .ok (.arraylength, 1)) (hw : w[i]? = some (aI n f))
    (kk : EW M sc (pc + 1) lv (.int (nI n) :: st) w r w') : EW M sc pc lv (.ref i :: st) w r w' := by
  refine ⟨kk.1, ?_⟩
  intro p l e R s m args below meth c Z dC dI cI cJ cR b B n0 t0 hC hn ht H locs ls hR hS hL
  have K := kk.2 p l e R s m args below meth c Z dC dI cI cJ cR b B n0 t0 hC hn ht H locs ls hR hS hL
  obtain ⟨hi, hat⟩ := hR.arI hw
  show W p l e R s m args below meth c H locs _ _ Z (F0 m pc ls (rv b B (.ref i) :: st.map (rv b B)))
  rw [rv_ref hi]
  exact va_alen hC.1 hC.2.1 hC.2.2.2.2.2.1.1 (P1 hat) 0 0 rfl rfl rfl hd K
theorem e_iast {M : Mt} {sc : Option (Nat × (Nat → Int32))} {pc : Nat} {lv st : List Value} {w : Wd} {r : Option Value} {w' : Wd} {i n : Nat} {f : Nat → Int32} {j x : Int32} (k : Nat) (hd : decode M.2.2.1 pc = .ok (.iastore, 1)) (hw : w[i]? = some (aI n f)) (hj : j = nI k) (hk : k < n) (hn9 : n < 2 ^ 31)
    (kk : EW M sc (pc + 1) lv st (w.set i (aI n (va_up f k x))) r w') : EW M sc pc lv (.int x :: .int j :: .ref i :: st) w r w' := by
  have hz := tot_setL (e := aI n (va_up f k x)) hw (by simp [szE])
  obtain ⟨k1, k2⟩ := kk
  rw [hz.1, hz.2] at k1 k2
  refine ⟨k1, ?_⟩
  intro p l e R s m args below meth c Z dC dI cI cJ cR b B n0 t0 hC hn ht H locs ls hR hS hL
  obtain ⟨hi, hat⟩ := hR.arI hw
  obtain ⟨q1, q2⟩ := nI_vp hj hk hn9
  show W p l e R s m args below meth c H locs _ _ Z (F0 m pc ls (.int x :: .int j :: rv b B (.ref i) :: st.map (rv b B)))
  rw [rv_ref hi]
  refine x_iast hC.1 hC.2.1 hC.2.2.2.2.2.1.1 0 hat rfl q1 hd (fun H1 f1 a1 a2 a3 => ?_)
  rw [q2] at a1
  exact k2 p l e R s m args below meth c Z dC dI cI cJ cR b B n0 t0 hC hn ht H1 _ ls (hR.set hi a1 a2 a3) (hS.put a2 a3 (by show B < B + i; omega)) hL
theorem e_last {M : Mt} {sc : Option (Nat × (Nat → Int32))} {pc : Nat} {lv st : List Value} {w : Wd} {r : Option Value} {w' : Wd} {i n : Nat} {f : Nat → Int64} {j : Int32} {x : Int64} (k : Nat) (hd : decode M.2.2.1 pc = .ok (.lastore, 1)) (hw : w[i]? = some (aJ n f)) (hj : j = nI k) (hk : k < n) (hn9 : n < 2 ^ 31)
    (kk : EW M sc (pc + 1) lv st (w.set i (aJ n (va_up f k x))) r w') : EW M sc pc lv (.long x :: .int j :: .ref i :: st) w r w' := by
  have hz := tot_setL (e := aJ n (va_up f k x)) hw (by simp [szE])
  obtain ⟨k1, k2⟩ := kk
  rw [hz.1, hz.2] at k1 k2
  refine ⟨k1, ?_⟩
  intro p l e R s m args below meth c Z dC dI cI cJ cR b B n0 t0 hC hn ht H locs ls hR hS hL
  obtain ⟨hi, hat⟩ := hR.arJ hw
  obtain ⟨q1, q2⟩ := nI_vp hj hk hn9
  show W p l e R s m args below meth c H locs _ _ Z (F0 m pc ls (.long x :: .int j :: rv b B (.ref i) :: st.map (rv b B)))
  rw [rv_ref hi]
  refine x_last hC.1 hC.2.1 hC.2.2.2.2.2.1.1 1 hat rfl q1 hd (fun H1 f1 a1 a2 a3 => ?_)
  rw [q2] at a1
  exact k2 p l e R s m args below meth c Z dC dI cI cJ cR b B n0 t0 hC hn ht H1 _ ls (hR.set hi a1 a2 a3) (hS.put a2 a3 (by show B < B + i; omega)) hL
theorem e_aast {M : Mt} {sc : Option (Nat × (Nat → Int32))} {pc : Nat} {lv st : List Value} {w : Wd} {r : Option Value} {w' : Wd} {i n x : Nat} {vs : List Value} {f : Nat → Option Nat} {j : Int32} (k : Nat) (hd : decode M.2.2.1 pc = .ok (.aastore, 1)) (hw : w[i]? = some (aR n f)) (hj : j = nI k) (hk : k < n) (hn9 : n < 2 ^ 31) (hx : w[x]? = some (oB 4 vs))
    (kk : EW M sc (pc + 1) lv st (w.set i (aR n (va_up f k (some x)))) r w') : EW M sc pc lv (.ref x :: .int j :: .ref i :: st) w r w' := by
  have hz := tot_setL (e := aR n (va_up f k (some x))) hw (by simp [szE])
  obtain ⟨k1, k2⟩ := kk
  rw [hz.1, hz.2] at k1 k2
  refine ⟨k1, ?_⟩
  intro p l e R s m args below meth c Z dC dI cI cJ cR b B n0 t0 hC hn ht H locs ls hR hS hL
  obtain ⟨hi, hat⟩ := hR.arR (by omega) hw
  obtain ⟨hx0, hatx⟩ := hR.obj hx
  obtain ⟨q1, q2⟩ := nI_vp hj hk hn9
  show W p l e R s m args below meth c H locs _ _ Z (F0 m pc ls (rv b B (.ref x) :: .int j :: rv b B (.ref i) :: st.map (rv b B)))
  rw [rv_ref hi, rv_ref hx0]
  refine x_aast (q9 := (RX4, TX4, 2)) hC.1 hC.2.1 hC.2.2.2.2.2.1.1 2 4 hat rfl hatx rfl q1 hd (fun H1 f1 a1 a2 a3 => ?_)
  rw [q2] at a1
  refine k2 p l e R s m args below meth c Z dC dI cI cJ cR b B n0 t0 hC hn ht H1 _ ls (hR.set hi ?_ a2 a3) (hS.put a2 a3 (by show B < B + i; omega)) hL
  have e9 : (va_up (fun k => (f k).map (adr b B)) k (some (B + x))) = fun q => (va_up f k (some x) q).map (adr b B) := by
    funext q
    by_cases hq : q = k
    · simp [va_up, hq, adr_pos hx0]
    · simp [va_up, hq]
  rw [e9] at a1
  exact a1
