/-! THE JUDGEMENTS: a method's walk, and its contract, over a small world of cells: a list of cells, whose places are the references (place 0 stands for the law's script) -/
abbrev Cel : Type := (Nat × ((Nat → Int32) ⊕ (Nat → Int64) ⊕ (Nat → Option Nat))) ⊕ (Nat × List Value)
abbrev Wd : Type := List Cel
/-- own class, name, code, locals, what it answers, how deep its calls go -/
abbrev Mt : Type := String × MethodName × ByteArray × Nat × Option FieldType × Nat
abbrev aI (n : Nat) (f : Nat → Int32) : Cel := .inl (n, .inl f)
abbrev aJ (n : Nat) (f : Nat → Int64) : Cel := .inl (n, .inr (.inl f))
abbrev aR (n : Nat) (f : Nat → Option Nat) : Cel := .inl (n, .inr (.inr f))
abbrev oB (c : Nat) (fs : List Value) : Cel := .inr (c, fs)
abbrev scrC : Cel := aR 0 (fun _ => none)
abbrev dmy : Value := .retAddr 0
def adr (b B i : Nat) : Nat := if i = 0 then b else B + i
theorem adr_pos {b B i : Nat} (h : i ≠ 0) : adr b B i = B + i := if_neg h
def rv (b B : Nat) : Value → Value
  | .ref i => .ref (adr b B i)
  | v => v
theorem rv_cat (b B : Nat) (v : Value) : (rv b B v).category = v.category := by cases v <;> rfl
def rzE (b B : Nat) (cI cJ cR : ClassId) : Cel → va_E
  | .inl (n, .inl f) => .inl (cI, n, .inl f)
  | .inl (n, .inr (.inl f)) => .inl (cJ, n, .inr (.inl f))
  | .inl (n, .inr (.inr f)) => .inl (cR, n, .inr (.inr (.inr (.inr (fun k => (f k).map (adr b B))))))
  | .inr (c, fs) => .inr (c, fs.map (rv b B))
def szE : Cel → Nat
  | .inl (n, _) => n
  | .inr (_, fs) => fs.length
def tot : Wd → Nat
  | [] => 0
  | e :: w => szE e + tot w
theorem tot_app (w v : Wd) : tot (w ++ v) = tot w + tot v := by
  induction w with
  | nil => simp [tot]
  | cons a w ih => simp [tot, ih, Nat.add_assoc]
theorem tot_set (w : Wd) : ∀ (i : Nat) (e0 e : Cel), w[i]? = some e0 → szE e = szE e0 → tot (w.set i e) = tot w := by
  induction w with
  | nil => intro i e0 e h; simp at h
  | cons a w ih =>
    intro i e0 e h hs
    cases i with
    | zero =>
      simp at h
      subst h
      simp [tot, hs]
    | succ i =>
      simp at h
      simp [tot, ih i e0 e h hs]
/-- the heap holds the world: its cells stand behind B, one after another -/
def RZ (dC : Nat → ClassId) (dI : Nat → Nat → Nat) (cI cJ cR : ClassId) (b B : Nat) (w : Wd) (H : Heap) : Prop :=
  w[0]? = some scrC ∧ H.size = B + w.length ∧ ∀ (i : Nat) (e : Cel), i ≠ 0 → w[i]? = some e → va_at (dC, dI) vwCl (B + i, rzE b B cI cJ cR e) H
theorem RZ.set {dC : Nat → ClassId} {dI : Nat → Nat → Nat} {cI cJ cR : ClassId} {b B : Nat} {w : Wd} {H H1 : Heap} (h : RZ dC dI cI cJ cR b B w H) {i : Nat} (hi : i ≠ 0) {e : Cel}
    (he : va_at (dC, dI) vwCl (B + i, rzE b B cI cJ cR e) H1) (z : H1.size = H.size) (oq : ∀ q : Nat, q ≠ B + i → H1[q]? = H[q]?) : RZ dC dI cI cJ cR b B (w.set i e) H1 := by
  obtain ⟨h0, h1, h2⟩ := h
  refine ⟨?_, by rw [z, h1, List.length_set], fun j e' hj hw => ?_⟩
  · rw [List.getElem?_set_ne hi]; exact h0
  · by_cases hji : i = j
    · subst hji
      by_cases hl : i < w.length
      · rw [List.getElem?_set_self hl] at hw
        cases hw
        exact he
      · rw [List.getElem?_eq_none (by rw [List.length_set]; omega)] at hw
        cases hw
    · rw [List.getElem?_set_ne hji] at hw
      exact (h2 j e' hj hw).kept (oq _ (by show B + j ≠ B + i; omega))
theorem RZ.pos {dC : Nat → ClassId} {dI : Nat → Nat → Nat} {cI cJ cR : ClassId} {b B : Nat} {w : Wd} {H : Heap} (h : RZ dC dI cI cJ cR b B w H) : 0 < w.length := by
  have h0 := h.1
  cases w with
  | nil => simp at h0
  | cons a w => simp
theorem RZ.push {dC : Nat → ClassId} {dI : Nat → Nat → Nat} {cI cJ cR : ClassId} {b B : Nat} {w : Wd} {H H1 : Heap} (h : RZ dC dI cI cJ cR b B w H) {e : Cel}
    (he : va_at (dC, dI) vwCl (H.size, rzE b B cI cJ cR e) H1) (z : H1.size = H.size + 1) (oq : ∀ q : Nat, q < H.size → H1[q]? = H[q]?) : RZ dC dI cI cJ cR b B (w ++ [e]) H1 := by
  have hp := h.pos
  obtain ⟨h0, h1, h2⟩ := h
  refine ⟨by rw [List.getElem?_append_left hp]; exact h0, by rw [z, h1, List.length_append]; rfl, fun j e' hj hw => ?_⟩
  by_cases hl : j < w.length
  · rw [List.getElem?_append_left hl] at hw
    exact (h2 j e' hj hw).kept (oq _ (by show B + j < _; omega))
  · rw [List.getElem?_append_right (by omega)] at hw
    have hz : j - w.length < 1 := (List.getElem?_eq_some_iff.mp hw).1
    have ej : j = w.length := by omega
    subst ej
    rw [Nat.sub_self] at hw
    cases hw
    rw [h1] at he
    exact he
theorem RZ.obj {dC : Nat → ClassId} {dI : Nat → Nat → Nat} {cI cJ cR : ClassId} {b B : Nat} {w : Wd} {H : Heap} (h : RZ dC dI cI cJ cR b B w H) {i c : Nat} {fs : List Value} (hw : w[i]? = some (oB c fs)) : i ≠ 0 ∧ va_at (dC, dI) vwCl (B + i, .inr (c, fs.map (rv b B))) H := by
  have hi : i ≠ 0 := fun e => by subst e; rw [h.1] at hw; cases hw
  exact ⟨hi, h.2.2 i _ hi hw⟩
theorem RZ.arI {dC : Nat → ClassId} {dI : Nat → Nat → Nat} {cI cJ cR : ClassId} {b B : Nat} {w : Wd} {H : Heap} (h : RZ dC dI cI cJ cR b B w H) {i n : Nat} {f : Nat → Int32} (hw : w[i]? = some (aI n f)) : i ≠ 0 ∧ va_at (dC, dI) vwCl (B + i, .inl (cI, n, .inl f)) H := by
  have hi : i ≠ 0 := fun e => by subst e; rw [h.1] at hw; cases hw
  exact ⟨hi, h.2.2 i _ hi hw⟩
theorem RZ.arJ {dC : Nat → ClassId} {dI : Nat → Nat → Nat} {cI cJ cR : ClassId} {b B : Nat} {w : Wd} {H : Heap} (h : RZ dC dI cI cJ cR b B w H) {i n : Nat} {f : Nat → Int64} (hw : w[i]? = some (aJ n f)) : i ≠ 0 ∧ va_at (dC, dI) vwCl (B + i, .inl (cJ, n, .inr (.inl f))) H := by
  have hi : i ≠ 0 := fun e => by subst e; rw [h.1] at hw; cases hw
  exact ⟨hi, h.2.2 i _ hi hw⟩
theorem RZ.arR {dC : Nat → ClassId} {dI : Nat → Nat → Nat} {cI cJ cR : ClassId} {b B : Nat} {w : Wd} {H : Heap} (h : RZ dC dI cI cJ cR b B w H) {i n : Nat} {f : Nat → Option Nat} (hn : 0 < n) (hw : w[i]? = some (aR n f)) : i ≠ 0 ∧ va_at (dC, dI) vwCl (B + i, .inl (cR, n, .inr (.inr (.inr (.inr (fun k => (f k).map (adr b B))))))) H := by
  have hi : i ≠ 0 := fun e => by
    subst e
    rw [h.1] at hw
    have h2 := Option.some.inj hw
    simp only [Sum.inl.injEq, Prod.mk.injEq] at h2
    omega
  exact ⟨hi, h.2.2 i _ hi hw⟩
/-- locals: place by place; a place that isn't known holds dmy (any retAddr) -/
def LH (b B : Nat) (ls : Array Slot) (nL : Nat) (lv : List Value) : Prop := ls.size = nL ∧ lv_wf ls ∧ ∀ (i : Nat) (v : Value), lv[i]? = some v → (∃ n, v = .retAddr n) ∨ ls[i]? = some (.val (rv b B v))
theorem LH.at {b B : Nat} {ls : Array Slot} {nL : Nat} {lv : List Value} (h : LH b B ls nL lv) {i : Nat} {v : Value} (hi : lv[i]? = some v) (hv : ∀ n, v ≠ .retAddr n) : ls[i]? = some (.val (rv b B v)) := (h.2.2 i v hi).resolve_left (fun ⟨n, e⟩ => hv n e)
/-- what is told of the locals, as the kit says it -/
def lvP (b B : Nat) : Nat → List Value → List (Nat × Value)
  | _, [] => []
  | k, v :: l => match v with
    | .retAddr _ => lvP b B (k + 1) l
    | v => (k, rv b B v) :: lvP b B (k + 1) l
theorem lvP_mem {b B : Nat} : ∀ (l : List Value) (k : Nat) (q : Nat × Value), q ∈ lvP b B k l → ∃ (j : Nat) (v : Value), q = (k + j, rv b B v) ∧ l[j]? = some v ∧ ∀ n, v ≠ .retAddr n
  | [], k, q, h => by cases h
  | v :: l, k, q, h => by
    have tail : q ∈ lvP b B (k + 1) l → ∃ (j : Nat) (u : Value), q = (k + j, rv b B u) ∧ (v :: l)[j]? = some u ∧ ∀ n, u ≠ .retAddr n := fun h => by
      obtain ⟨j, u, h1, h2, h3⟩ := lvP_mem l (k + 1) q h
      exact ⟨j + 1, u, by rw [h1, show k + 1 + j = k + (j + 1) by omega], by simpa using h2, h3⟩
    cases v with
    | retAddr n => exact tail h
    | _ =>
      simp only [lvP, List.mem_cons] at h
      rcases h with h | h
      · exact ⟨0, _, by simpa using h, rfl, fun n e => by cases e⟩
      · exact tail h
theorem lvP_in {b B : Nat} : ∀ (l : List Value) (k j : Nat) (v : Value), l[j]? = some v → (∀ n, v ≠ .retAddr n) → (k + j, rv b B v) ∈ lvP b B k l
  | [], k, j, v, h, _ => by simp at h
  | u :: l, k, j, v, h, hv => by
    cases j with
    | zero =>
      simp at h
      subst h
      cases u with
      | retAddr n => exact absurd rfl (hv n)
      | _ => simp [lvP]
    | succ j =>
      simp at h
      have := lvP_in (b := b) (B := B) l (k + 1) j v h hv
      rw [show k + 1 + j = k + (j + 1) by omega] at this
      cases u with
      | retAddr n => exact this
      | _ => exact List.mem_cons_of_mem _ this
theorem LH.has {b B : Nat} {ls : Array Slot} {nL : Nat} {lv : List Value} (h : LH b B ls nL lv) : lv_has ls nL (lvP b B 0 lv) := by
  refine ⟨h.1, h.2.1, fun q hq => ?_⟩
  obtain ⟨j, v, h1, h2, h3⟩ := lvP_mem lv 0 q hq
  subst h1
  simp only [Nat.zero_add]
  exact h.at h2 h3
/-- a store: what stood at the place goes, and a long that it cuts -/
def cut (lv : List Value) : Nat → List Value
  | 0 => lv
  | i + 1 => match lv[i]? with
    | some (.long _) => lv.set i dmy
    | some (.double _) => lv.set i dmy
    | _ => lv
def lset (lv : List Value) (i : Nat) (v : Value) : List Value := (cut lv i).set i v
def lset2 (lv : List Value) (i : Nat) (v : Value) : List Value := ((cut lv i).set i v).set (i + 1) dmy
theorem get_set {α : Type} {l : List α} {i j : Nat} {x y : α} (h : (l.set i x)[j]? = some y) : (i = j ∧ y = x) ∨ (i ≠ j ∧ l[j]? = some y) := by
  by_cases hji : i = j
  · subst hji
    by_cases hl : i < l.length
    · rw [List.getElem?_set_self hl] at h
      cases h
      exact Or.inl ⟨rfl, rfl⟩
    · rw [List.getElem?_eq_none (by rw [List.length_set]; omega)] at h
      cases h
  · rw [List.getElem?_set_ne hji] at h
    exact Or.inr ⟨hji, h⟩
theorem cut_get {lv : List Value} {i j : Nat} {v : Value} (h : (cut lv i)[j]? = some v) : v = dmy ∨ (lv[j]? = some v ∧ ¬ (j + 1 = i ∧ v.category = 2)) := by
  cases i with
  | zero => exact Or.inr ⟨h, fun e => by omega⟩
  | succ i =>
    have key : (lv.set i dmy)[j]? = some v → v = dmy ∨ (lv[j]? = some v ∧ ¬ (j + 1 = i + 1 ∧ v.category = 2)) := fun h => by
      rcases get_set h with ⟨-, h1⟩ | ⟨h1, h2⟩
      · exact Or.inl h1
      · exact Or.inr ⟨h2, fun e => by omega⟩
    have hc : cut lv (i + 1) = match lv[i]? with
      | some (.long _) => lv.set i dmy
      | some (.double _) => lv.set i dmy
      | _ => lv := rfl
    rw [hc] at h
    split at h
    · exact key h
    · exact key h
    · rename_i hn1 hn2
      refine Or.inr ⟨h, fun e => ?_⟩
      have ej : j = i := by omega
      subst ej
      cases v with
      | long x => exact hn1 x h
      | double x => exact hn2 x h
      | _ => simp [Value.category] at e
theorem LH.stored {b B : Nat} {ls' : Array Slot} {nL : Nat} {lv : List Value} {i : Nat} {v : Value} (h : lv_has ls' nL ((i, rv b B v) :: (lvP b B 0 lv).filter (fun q => !(q.1 == i) && !(q.1 + 1 == i && q.2.category == 2)))) : LH b B ls' nL (lset lv i v) := by
  refine ⟨h.1, h.2.1, fun j u hj => ?_⟩
  rcases get_set hj with ⟨hji, e⟩ | ⟨hji, hj⟩
  · subst hji; subst e
    exact Or.inr (h.2.2 (i, rv b B u) List.mem_cons_self)
  · rcases cut_get hj with h1 | ⟨h1, h2⟩
    · exact Or.inl ⟨0, h1⟩
    · by_cases hd : ∃ n, u = .retAddr n
      · exact Or.inl hd
      · refine Or.inr (h.2.2 (j, rv b B u) (List.mem_cons_of_mem _ (List.mem_filter.mpr ⟨?_, ?_⟩)))
        · have := lvP_in (b := b) (B := B) lv 0 j u h1 (fun n e => hd ⟨n, e⟩)
          rwa [Nat.zero_add] at this
        · have e1 : (j == i) = false := by simpa using Ne.symm hji
          simp only [rv_cat, e1]
          by_cases hc : u.category = 2
          · have e2 : (j + 1 == i) = false := by simpa using fun e => h2 ⟨e, hc⟩
            simp [e2]
          · have e2 : (u.category == 2) = false := by simpa using hc
            simp [e2]
theorem LH.stored2 {b B : Nat} {ls' : Array Slot} {nL : Nat} {lv : List Value} {i : Nat} {v : Value} (h : lv_has ls' nL ((i, rv b B v) :: (lvP b B 0 lv).filter (fun q => !(q.1 == i) && (!(q.1 == i + 1) && !(q.1 + 1 == i && q.2.category == 2))))) : LH b B ls' nL (lset2 lv i v) := by
  refine ⟨h.1, h.2.1, fun j u hj => ?_⟩
  rcases get_set hj with ⟨-, e⟩ | ⟨hji2, hj⟩
  · exact Or.inl ⟨0, e⟩
  · rcases get_set hj with ⟨hji, e⟩ | ⟨hji, hj⟩
    · subst hji; subst e
      exact Or.inr (h.2.2 (i, rv b B u) List.mem_cons_self)
    · rcases cut_get hj with h1 | ⟨h1, h2⟩
      · exact Or.inl ⟨0, h1⟩
      · by_cases hd : ∃ n, u = .retAddr n
        · exact Or.inl hd
        · refine Or.inr (h.2.2 (j, rv b B u) (List.mem_cons_of_mem _ (List.mem_filter.mpr ⟨?_, ?_⟩)))
          · have := lvP_in (b := b) (B := B) lv 0 j u h1 (fun n e => hd ⟨n, e⟩)
            rwa [Nat.zero_add] at this
          · have e1 : (j == i) = false := by simpa using Ne.symm hji
            have e3 : (j == i + 1) = false := by simpa using Ne.symm hji2
            simp only [rv_cat, e1, e3]
            by_cases hc : u.category = 2
            · have e2 : (j + 1 == i) = false := by simpa using fun e => h2 ⟨e, hc⟩
              simp [e2]
            · have e2 : (u.category == 2) = false := by simpa using hc
              simp [e2]
/-- what a method begins with -/
def lve : List Value → List Value
  | [] => []
  | v :: l => if v.category = 2 then v :: dmy :: lve l else v :: lve l
theorem lve_get {b B : Nat} : ∀ (vs : List Value) (X : List Slot) (i : Nat) (v : Value), (lve vs)[i]? = some v → v = dmy ∨ (lg_sl (vs.map (rv b B)) ++ X)[i]? = some (.val (rv b B v))
  | [], X, i, v, h => by simp [lve] at h
  | u :: vs, X, i, v, h => by
    have el : lg_sl ((u :: vs).map (rv b B)) = (if u.category = 2 then [.val (rv b B u), .second] else [.val (rv b B u)]) ++ lg_sl (vs.map (rv b B)) := by simp [lg_sl, rv_cat]
    rw [el]
    unfold lve at h
    by_cases hc : u.category = 2
    · rw [if_pos hc] at h ⊢
      match i, h with
      | 0, h => simp at h; exact Or.inr (by simp [h])
      | 1, h => simp at h; exact Or.inl h.symm
      | i + 2, h =>
        simp at h
        rcases lve_get vs X i v h with h1 | h1
        · exact Or.inl h1
        · exact Or.inr (by simpa using h1)
    · rw [if_neg hc] at h ⊢
      match i, h with
      | 0, h => simp at h; exact Or.inr (by simp [h])
      | i + 1, h =>
        simp at h
        rcases lve_get vs X i v h with h1 | h1
        · exact Or.inl h1
        · exact Or.inr (by simpa using h1)
/-- LH of fewer places -/
theorem LH.less {b B : Nat} {ls : Array Slot} {nL : Nat} {lv lv' : List Value} (h : LH b B ls nL lv) (hs : ∀ (i : Nat) (v : Value), lv'[i]? = some v → (∃ n, v = .retAddr n) ∨ lv[i]? = some v) : LH b B ls nL lv' :=
  ⟨h.1, h.2.1, fun i v hi => (hs i v hi).elim Or.inl (fun h1 => h.2.2 i v h1)⟩
theorem LH.drop {b B : Nat} {ls : Array Slot} {nL : Nat} {lv : List Value} (h : LH b B ls nL lv) (k : Nat) : LH b B ls nL (lv.set k dmy) :=
  h.less (fun i v hi => (get_set hi).elim (fun q => Or.inl ⟨0, q.2⟩) (fun q => Or.inr q.2))
/-! the tables' words: those that every method may have, and those of nest mates -/
def TG : List Cond := lw_tbl.filter goodWord
theorem TG_in {w : Cond} (h : w ∈ lw_tbl) (g : goodWord w = true) : w ∈ TG := List.mem_filter.mpr ⟨h, g⟩
theorem TG_good {w : Cond} (h : w ∈ TG) : goodWord w = true := (List.mem_filter.mp h).2
def isN : Cond → Bool
  | .fieldLinkNest .. => true
  | .methodLinkNest .. => true
  | _ => false
def KX (dC : Nat → ClassId) (dI : Nat → Nat → Nat) (cI cJ cR : ClassId) (U : State) : Prop := va_K (dC, dI) vwCl [(cI, .int), (cJ, .long), (cR, .object RX4)] U ∧ (∀ w ∈ lw_tbl, isN w = true → va_Nw w U) ∧ va_AO RX4 U
theorem KX.warm {dC : Nat → ClassId} {dI : Nat → Nat → Nat} {cI cJ cR : ClassId} {s U : State} (hW : s.WarmedH U.vm) (h : KX dC dI cI cJ cR s) : KX dC dI cI cJ cR U := by
  refine ⟨va_K.moved hW.alike h.1, fun w hw hn => ?_, h.2.2.moved hW.alike⟩
  have := h.2.1 w hw hn
  cases w <;> first | exact this.warmF hW | exact this.warmM hW | (simp [isN] at hn)
theorem KX.same {dC : Nat → ClassId} {dI : Nat → Nat → Nat} {cI cJ cR : ClassId} {U : State} {g : JFrame} {mk : MethodId} {a : Array Value} (h : KX dC dI cI cJ cR U) : KX dC dI cI cJ cR (U.calling g mk a) := by
  refine ⟨va_K.moved (u := U) (U := U.calling g mk a) (Vm.Alike.refl U.vm) h.1, fun w hw hn => ?_, h.2.2.moved (u := U) (U := U.calling g mk a) (Vm.Alike.refl U.vm)⟩
  have := h.2.1 w hw hn
  cases w <;> first | exact this.same rfl rfl | (simp [isN] at hn)
/-- what a return instruction gives back -/
def RetOK (ty : Option FieldType) (ins : Instr) (r : Option Value) : Prop :=
  (ins = .ireturn ∧ ty = some .int ∧ ∃ x, r = some (.int x)) ∨ (ins = .ireturn ∧ ty = some .boolean ∧ ∃ x, r = some (.int x) ∧ x &&& 1 = x) ∨ (ins = .lreturn ∧ ty = some .long ∧ ∃ x, r = some (.long x)) ∨
  (ins = .return_ ∧ ty = none ∧ r = none) ∨ (ins = .areturn ∧ (∃ n, ty = some (.object n)) ∧ ∃ i, r = some (.ref i))
/-- a method's contract: from the world w it answers r, and leaves the world w' -/
def QX (dC : Nat → ClassId) (dI : Nat → Nat → Nat) (cI cJ cR : ClassId) (b B : Nat) (r : Option Value) (w' : Wd) : Array Value → State → Outcome → State → Prop := fun _ st oc t =>
  (oc = .returned (r.map (rv b B)) ∧ RZ dC dI cI cJ cR b B w' t.heap) ∧ va_F (fun q => B < q) st t
def PX (dC : Nat → ClassId) (dI : Nat → Nat → Nat) (cI cJ cR : ClassId) (b B : Nat) (As : List Value) (w : Wd) : Array Value → State → Prop := fun v U =>
  v = (As.map (rv b B)).toArray ∧ RZ dC dI cI cJ cR b B w U.heap ∧ B < U.heap.size ∧ KX dC dI cI cJ cR U
def rmO (M : Mt) (w w' : Wd) : Room := { frames := M.2.2.2.2.2, cells := w'.length - w.length, slots := tot w' - tot w, locals := 40 * M.2.2.2.2.2 }
def wsO (M : Mt) : List Cond := Cond.code M.2.1 M.2.2.1 M.2.2.2.1 M.2.2.2.2.1 :: TG
def CW (M : Mt) (As : List Value) (w : Wd) (r : Option Value) (w' : Wd) : Prop :=
  (w.length ≤ w'.length ∧ tot w ≤ tot w') ∧ ∀ (l : Launch) (dC : Nat → ClassId) (dI : Nat → Nat → Nat) (cI cJ cR : ClassId) (b B : Nat),
    Met l M.2.1 (wsO M) (rmO M w w') (PX dC dI cI cJ cR b B As w) (QX dC dI cI cJ cR b B r w') (w'.length - w.length) (tot w' - tot w) (fun q => B < q)
/-- what stands fast while a method's body is walked -/
def CX (M : Mt) (sc : Option (Nat × (Nat → Int32))) (r : Option Value) (w' : Wd) (p : Program) (l : Launch) (e : Env) (R : Room) (s : State) (m : MethodId) (args : Array Value) (below : List Frame) (meth : Method) (c : Code) (Z : State → Prop) (dC : Nat → ClassId) (dI : Nat → Nat → Nat) (cI cJ cR : ClassId) (b B n0 t0 : Nat) : Prop :=
  p.tables.exec = Jvm.exec ∧ c.code = M.2.2.1 ∧ c.maxLocals = M.2.2.2.1 ∧ s.vm.findClass M.1 = some m.cls ∧ (∀ w ∈ TG, w.before args s = true) ∧ KX dC dI cI cJ cR s ∧
  (∀ L xs, sc = some (L, xs) → va_X b L xs s s.heap ∧ b < s.heap.size ∧ b ≤ B) ∧ B < s.heap.size ∧ (M.2.2.2.2.2 ≤ R.frames ∧ 40 * M.2.2.2.2.2 ≤ R.locals ∧ w'.length - n0 ≤ R.cells ∧ tot w' - t0 ≤ R.slots) ∧ (M.2.1.name = "<init>" → meth.name = "<init>") ∧
  ∀ (H : Heap) (locs : List Loc) (pc : Nat) (ls : Array Slot) (ins : Instr), RZ dC dI cI cJ cR b B w' H → va_S (fun q => B < q) s.heap H locs → decode M.2.2.1 pc = .ok (ins, 1) → RetOK M.2.2.2.2.1 ins r →
    W p l e R s m args below meth c H locs (w'.length - n0) (tot w' - t0) Z (F0 m pc ls (r.map (rv b B)).toList)
/-- the walk: from pc, with these locals and this stack, in the world w, the method comes to its end with r and w' -/
def EW (M : Mt) (sc : Option (Nat × (Nat → Int32))) (pc : Nat) (lv st : List Value) (w : Wd) (r : Option Value) (w' : Wd) : Prop :=
  (w.length ≤ w'.length ∧ tot w ≤ tot w') ∧ ∀ (p : Program) (l : Launch) (e : Env) (R : Room) (s : State) (m : MethodId) (args : Array Value) (below : List Frame) (meth : Method) (c : Code) (Z : State → Prop) (dC : Nat → ClassId) (dI : Nat → Nat → Nat) (cI cJ cR : ClassId) (b B n0 t0 : Nat),
    CX M sc r w' p l e R s m args below meth c Z dC dI cI cJ cR b B n0 t0 → n0 ≤ w.length → t0 ≤ tot w → ∀ (H : Heap) (locs : List Loc) (ls : Array Slot), RZ dC dI cI cJ cR b B w H → va_S (fun q => B < q) s.heap H locs → LH b B ls M.2.2.2.1 lv →
      W p l e R s m args below meth c H locs (w.length - n0) (tot w - t0) Z (F0 m pc ls (st.map (rv b B)))
