/-! RULES: an instruction, a rule (written by a program) -/
theorem e_iconst {M : Mt} {sc : Option (Nat × (Nat → Int32))} {pc : Nat} {lv st : List Value} {w : Wd} {r : Option Value} {w' : Wd} {n : Int} (hd : decode M.2.2.1 pc = .ok (.iconst n, 1))
    (k : EW M sc (pc + 1) lv (.int (Int32.ofInt n) :: st) w r w') : EW M sc pc lv st w r w' := by
  refine ⟨k.1, ?_⟩
  intro p l e R s m args below meth c Z dC dI cI cJ cR b B n0 t0 hC hn ht H locs ls hR hS hL
  exact lv_iconst hC.1 hC.2.1 hd rfl (k.2 p l e R s m args below meth c Z dC dI cI cJ cR b B n0 t0 hC hn ht H locs ls hR hS hL)
theorem e_bipush {M : Mt} {sc : Option (Nat × (Nat → Int32))} {pc : Nat} {lv st : List Value} {w : Wd} {r : Option Value} {w' : Wd} {n : Int} (hd : decode M.2.2.1 pc = .ok (.bipush n, 2))
    (k : EW M sc (pc + 2) lv (.int (Int8.ofInt n).toInt32 :: st) w r w') : EW M sc pc lv st w r w' := by
  refine ⟨k.1, ?_⟩
  intro p l e R s m args below meth c Z dC dI cI cJ cR b B n0 t0 hC hn ht H locs ls hR hS hL
  exact lv_bipush hC.1 hC.2.1 hd rfl (k.2 p l e R s m args below meth c Z dC dI cI cJ cR b B n0 t0 hC hn ht H locs ls hR hS hL)
theorem e_sipush {M : Mt} {sc : Option (Nat × (Nat → Int32))} {pc : Nat} {lv st : List Value} {w : Wd} {r : Option Value} {w' : Wd} {n : Int} (hd : decode M.2.2.1 pc = .ok (.sipush n, 3))
    (k : EW M sc (pc + 3) lv (.int (Int16.ofInt n).toInt32 :: st) w r w') : EW M sc pc lv st w r w' := by
  refine ⟨k.1, ?_⟩
  intro p l e R s m args below meth c Z dC dI cI cJ cR b B n0 t0 hC hn ht H locs ls hR hS hL
  exact lv_sipush hC.1 hC.2.1 hd rfl (k.2 p l e R s m args below meth c Z dC dI cI cJ cR b B n0 t0 hC hn ht H locs ls hR hS hL)
theorem e_lconst {M : Mt} {sc : Option (Nat × (Nat → Int32))} {pc : Nat} {lv st : List Value} {w : Wd} {r : Option Value} {w' : Wd} {n : Fin 2} (hd : decode M.2.2.1 pc = .ok (.lconst n, 1))
    (k : EW M sc (pc + 1) lv (.long (Int64.ofNat (n : Nat)) :: st) w r w') : EW M sc pc lv st w r w' := by
  refine ⟨k.1, ?_⟩
  intro p l e R s m args below meth c Z dC dI cI cJ cR b B n0 t0 hC hn ht H locs ls hR hS hL
  exact lv_lconst hC.1 hC.2.1 hd rfl (k.2 p l e R s m args below meth c Z dC dI cI cJ cR b B n0 t0 hC hn ht H locs ls hR hS hL)
theorem e_iload_n {M : Mt} {sc : Option (Nat × (Nat → Int32))} {pc : Nat} {lv st : List Value} {w : Wd} {r : Option Value} {w' : Wd} {n : Fin 4} {x : Int32} (hd : decode M.2.2.1 pc = .ok (.iload_n n, 1)) (hl : lv[(n : Nat)]? = some (.int x))
    (k : EW M sc (pc + 1) lv (.int x :: st) w r w') : EW M sc pc lv st w r w' := by
  refine ⟨k.1, ?_⟩
  intro p l e R s m args below meth c Z dC dI cI cJ cR b B n0 t0 hC hn ht H locs ls hR hS hL
  exact lv_iload_n hC.1 hC.2.1 hd rfl (hL.at hl (fun n h => by cases h)) (k.2 p l e R s m args below meth c Z dC dI cI cJ cR b B n0 t0 hC hn ht H locs ls hR hS hL)
theorem e_iload {M : Mt} {sc : Option (Nat × (Nat → Int32))} {pc : Nat} {lv st : List Value} {w : Wd} {r : Option Value} {w' : Wd} {n : Nat} {x : Int32} (hd : decode M.2.2.1 pc = .ok (.iload n, 2)) (hl : lv[n]? = some (.int x))
    (k : EW M sc (pc + 2) lv (.int x :: st) w r w') : EW M sc pc lv st w r w' := by
  refine ⟨k.1, ?_⟩
  intro p l e R s m args below meth c Z dC dI cI cJ cR b B n0 t0 hC hn ht H locs ls hR hS hL
  exact lv_iload hC.1 hC.2.1 hd (hL.at hl (fun n h => by cases h)) (k.2 p l e R s m args below meth c Z dC dI cI cJ cR b B n0 t0 hC hn ht H locs ls hR hS hL)
theorem e_lload_n {M : Mt} {sc : Option (Nat × (Nat → Int32))} {pc : Nat} {lv st : List Value} {w : Wd} {r : Option Value} {w' : Wd} {n : Fin 4} {x : Int64} (hd : decode M.2.2.1 pc = .ok (.lload_n n, 1)) (hl : lv[(n : Nat)]? = some (.long x))
    (k : EW M sc (pc + 1) lv (.long x :: st) w r w') : EW M sc pc lv st w r w' := by
  refine ⟨k.1, ?_⟩
  intro p l e R s m args below meth c Z dC dI cI cJ cR b B n0 t0 hC hn ht H locs ls hR hS hL
  exact lv_lload_n hC.1 hC.2.1 hd rfl (hL.at hl (fun n h => by cases h)) (k.2 p l e R s m args below meth c Z dC dI cI cJ cR b B n0 t0 hC hn ht H locs ls hR hS hL)
theorem e_lload {M : Mt} {sc : Option (Nat × (Nat → Int32))} {pc : Nat} {lv st : List Value} {w : Wd} {r : Option Value} {w' : Wd} {n : Nat} {x : Int64} (hd : decode M.2.2.1 pc = .ok (.lload n, 2)) (hl : lv[n]? = some (.long x))
    (k : EW M sc (pc + 2) lv (.long x :: st) w r w') : EW M sc pc lv st w r w' := by
  refine ⟨k.1, ?_⟩
  intro p l e R s m args below meth c Z dC dI cI cJ cR b B n0 t0 hC hn ht H locs ls hR hS hL
  exact lv_lload hC.1 hC.2.1 hd (hL.at hl (fun n h => by cases h)) (k.2 p l e R s m args below meth c Z dC dI cI cJ cR b B n0 t0 hC hn ht H locs ls hR hS hL)
theorem e_aload_n {M : Mt} {sc : Option (Nat × (Nat → Int32))} {pc : Nat} {lv st : List Value} {w : Wd} {r : Option Value} {w' : Wd} {n : Fin 4} {x : Nat} (hd : decode M.2.2.1 pc = .ok (.aload_n n, 1)) (hl : lv[(n : Nat)]? = some (.ref x))
    (k : EW M sc (pc + 1) lv (.ref x :: st) w r w') : EW M sc pc lv st w r w' := by
  refine ⟨k.1, ?_⟩
  intro p l e R s m args below meth c Z dC dI cI cJ cR b B n0 t0 hC hn ht H locs ls hR hS hL
  exact lv_aload_n hC.1 hC.2.1 hd rfl (hL.at hl (fun n h => by cases h)) (k.2 p l e R s m args below meth c Z dC dI cI cJ cR b B n0 t0 hC hn ht H locs ls hR hS hL)
theorem e_aload {M : Mt} {sc : Option (Nat × (Nat → Int32))} {pc : Nat} {lv st : List Value} {w : Wd} {r : Option Value} {w' : Wd} {n : Nat} {x : Nat} (hd : decode M.2.2.1 pc = .ok (.aload n, 2)) (hl : lv[n]? = some (.ref x))
    (k : EW M sc (pc + 2) lv (.ref x :: st) w r w') : EW M sc pc lv st w r w' := by
  refine ⟨k.1, ?_⟩
  intro p l e R s m args below meth c Z dC dI cI cJ cR b B n0 t0 hC hn ht H locs ls hR hS hL
  exact lv_aload hC.1 hC.2.1 hd (hL.at hl (fun n h => by cases h)) (k.2 p l e R s m args below meth c Z dC dI cI cJ cR b B n0 t0 hC hn ht H locs ls hR hS hL)
theorem e_istore_n {M : Mt} {sc : Option (Nat × (Nat → Int32))} {pc : Nat} {lv st : List Value} {w : Wd} {r : Option Value} {w' : Wd} {n : Fin 4} {x : Int32} (hd : decode M.2.2.1 pc = .ok (.istore_n n, 1)) (hn9 : (n : Nat) < M.2.2.2.1)
    (k : EW M sc (pc + 1) (lset lv n (.int x)) st w r w') : EW M sc pc lv (.int x :: st) w r w' := by
  refine ⟨k.1, ?_⟩
  intro p l e R s m args below meth c Z dC dI cI cJ cR b B n0 t0 hC hn ht H locs ls hR hS hL
  exact lv_istore_n hC.1 hC.2.1 hd rfl hL.has hn9 rfl (fun ls hl => k.2 p l e R s m args below meth c Z dC dI cI cJ cR b B n0 t0 hC hn ht H locs ls hR hS (LH.stored hl))
theorem e_istore {M : Mt} {sc : Option (Nat × (Nat → Int32))} {pc : Nat} {lv st : List Value} {w : Wd} {r : Option Value} {w' : Wd} {n : Nat} {x : Int32} (hd : decode M.2.2.1 pc = .ok (.istore n, 2)) (hn9 : n < M.2.2.2.1)
    (k : EW M sc (pc + 2) (lset lv n (.int x)) st w r w') : EW M sc pc lv (.int x :: st) w r w' := by
  refine ⟨k.1, ?_⟩
  intro p l e R s m args below meth c Z dC dI cI cJ cR b B n0 t0 hC hn ht H locs ls hR hS hL
  exact lv_istore hC.1 hC.2.1 hd hL.has hn9 rfl (fun ls hl => k.2 p l e R s m args below meth c Z dC dI cI cJ cR b B n0 t0 hC hn ht H locs ls hR hS (LH.stored hl))
theorem e_lstore_n {M : Mt} {sc : Option (Nat × (Nat → Int32))} {pc : Nat} {lv st : List Value} {w : Wd} {r : Option Value} {w' : Wd} {n : Fin 4} {x : Int64} (hd : decode M.2.2.1 pc = .ok (.lstore_n n, 1)) (hn9 : (n : Nat) + 1 < M.2.2.2.1)
    (k : EW M sc (pc + 1) (lset2 lv n (.long x)) st w r w') : EW M sc pc lv (.long x :: st) w r w' := by
  refine ⟨k.1, ?_⟩
  intro p l e R s m args below meth c Z dC dI cI cJ cR b B n0 t0 hC hn ht H locs ls hR hS hL
  exact lv_lstore_n hC.1 hC.2.1 hd rfl hL.has hn9 rfl (fun ls hl => k.2 p l e R s m args below meth c Z dC dI cI cJ cR b B n0 t0 hC hn ht H locs ls hR hS (LH.stored2 hl))
theorem e_lstore {M : Mt} {sc : Option (Nat × (Nat → Int32))} {pc : Nat} {lv st : List Value} {w : Wd} {r : Option Value} {w' : Wd} {n : Nat} {x : Int64} (hd : decode M.2.2.1 pc = .ok (.lstore n, 2)) (hn9 : n + 1 < M.2.2.2.1)
    (k : EW M sc (pc + 2) (lset2 lv n (.long x)) st w r w') : EW M sc pc lv (.long x :: st) w r w' := by
  refine ⟨k.1, ?_⟩
  intro p l e R s m args below meth c Z dC dI cI cJ cR b B n0 t0 hC hn ht H locs ls hR hS hL
  exact lv_lstore hC.1 hC.2.1 hd hL.has hn9 rfl (fun ls hl => k.2 p l e R s m args below meth c Z dC dI cI cJ cR b B n0 t0 hC hn ht H locs ls hR hS (LH.stored2 hl))
theorem e_astore_n {M : Mt} {sc : Option (Nat × (Nat → Int32))} {pc : Nat} {lv st : List Value} {w : Wd} {r : Option Value} {w' : Wd} {n : Fin 4} {x : Nat} (hd : decode M.2.2.1 pc = .ok (.astore_n n, 1)) (hn9 : (n : Nat) < M.2.2.2.1)
    (k : EW M sc (pc + 1) (lset lv n (.ref x)) st w r w') : EW M sc pc lv (.ref x :: st) w r w' := by
  refine ⟨k.1, ?_⟩
  intro p l e R s m args below meth c Z dC dI cI cJ cR b B n0 t0 hC hn ht H locs ls hR hS hL
  exact lv_astore_n hC.1 hC.2.1 hd rfl hL.has hn9 rfl (fun ls hl => k.2 p l e R s m args below meth c Z dC dI cI cJ cR b B n0 t0 hC hn ht H locs ls hR hS (LH.stored hl))
theorem e_astore {M : Mt} {sc : Option (Nat × (Nat → Int32))} {pc : Nat} {lv st : List Value} {w : Wd} {r : Option Value} {w' : Wd} {n : Nat} {x : Nat} (hd : decode M.2.2.1 pc = .ok (.astore n, 2)) (hn9 : n < M.2.2.2.1)
    (k : EW M sc (pc + 2) (lset lv n (.ref x)) st w r w') : EW M sc pc lv (.ref x :: st) w r w' := by
  refine ⟨k.1, ?_⟩
  intro p l e R s m args below meth c Z dC dI cI cJ cR b B n0 t0 hC hn ht H locs ls hR hS hL
  exact lv_astore hC.1 hC.2.1 hd hL.has hn9 rfl (fun ls hl => k.2 p l e R s m args below meth c Z dC dI cI cJ cR b B n0 t0 hC hn ht H locs ls hR hS (LH.stored hl))
theorem e_iinc {M : Mt} {sc : Option (Nat × (Nat → Int32))} {pc : Nat} {lv st : List Value} {w : Wd} {r : Option Value} {w' : Wd} {i : Nat} {n : Int} {x : Int32} (hd : decode M.2.2.1 pc = .ok (.iinc i n, 3)) (hl : lv[i]? = some (.int x)) (hn9 : i < M.2.2.2.1)
    (k : EW M sc (pc + 3) (lset lv i (.int (x + Int32.ofInt n))) st w r w') : EW M sc pc lv st w r w' := by
  refine ⟨k.1, ?_⟩
  intro p l e R s m args below meth c Z dC dI cI cJ cR b B n0 t0 hC hn ht H locs ls hR hS hL
  have hm := lvP_in (b := b) (B := B) lv 0 i _ hl (fun n h => by cases h)
  rw [Nat.zero_add] at hm
  obtain ⟨q, hq⟩ := List.getElem?_of_mem hm
  exact lv_iinc hC.1 hC.2.1 hd hL.has hq rfl hn9 rfl (fun ls hl => k.2 p l e R s m args below meth c Z dC dI cI cJ cR b B n0 t0 hC hn ht H locs ls hR hS (LH.stored hl))
theorem e_iadd {M : Mt} {sc : Option (Nat × (Nat → Int32))} {pc : Nat} {lv st : List Value} {w : Wd} {r : Option Value} {w' : Wd} {x y : Int32} (hd : decode M.2.2.1 pc = .ok (.iadd, 1))
    (k : EW M sc (pc + 1) lv (.int (x + y) :: st) w r w') : EW M sc pc lv (.int y :: .int x :: st) w r w' := by
  refine ⟨k.1, ?_⟩
  intro p l e R s m args below meth c Z dC dI cI cJ cR b B n0 t0 hC hn ht H locs ls hR hS hL
  exact lv_iadd hC.1 hC.2.1 hd (k.2 p l e R s m args below meth c Z dC dI cI cJ cR b B n0 t0 hC hn ht H locs ls hR hS hL)
theorem e_isub {M : Mt} {sc : Option (Nat × (Nat → Int32))} {pc : Nat} {lv st : List Value} {w : Wd} {r : Option Value} {w' : Wd} {x y : Int32} (hd : decode M.2.2.1 pc = .ok (.isub, 1))
    (k : EW M sc (pc + 1) lv (.int (x - y) :: st) w r w') : EW M sc pc lv (.int y :: .int x :: st) w r w' := by
  refine ⟨k.1, ?_⟩
  intro p l e R s m args below meth c Z dC dI cI cJ cR b B n0 t0 hC hn ht H locs ls hR hS hL
  exact lv_isub hC.1 hC.2.1 hd (k.2 p l e R s m args below meth c Z dC dI cI cJ cR b B n0 t0 hC hn ht H locs ls hR hS hL)
theorem e_imul {M : Mt} {sc : Option (Nat × (Nat → Int32))} {pc : Nat} {lv st : List Value} {w : Wd} {r : Option Value} {w' : Wd} {x y : Int32} (hd : decode M.2.2.1 pc = .ok (.imul, 1))
    (k : EW M sc (pc + 1) lv (.int (x * y) :: st) w r w') : EW M sc pc lv (.int y :: .int x :: st) w r w' := by
  refine ⟨k.1, ?_⟩
  intro p l e R s m args below meth c Z dC dI cI cJ cR b B n0 t0 hC hn ht H locs ls hR hS hL
  exact lv_imul hC.1 hC.2.1 hd (k.2 p l e R s m args below meth c Z dC dI cI cJ cR b B n0 t0 hC hn ht H locs ls hR hS hL)
theorem e_iand {M : Mt} {sc : Option (Nat × (Nat → Int32))} {pc : Nat} {lv st : List Value} {w : Wd} {r : Option Value} {w' : Wd} {x y : Int32} (hd : decode M.2.2.1 pc = .ok (.iand, 1))
    (k : EW M sc (pc + 1) lv (.int (x &&& y) :: st) w r w') : EW M sc pc lv (.int y :: .int x :: st) w r w' := by
  refine ⟨k.1, ?_⟩
  intro p l e R s m args below meth c Z dC dI cI cJ cR b B n0 t0 hC hn ht H locs ls hR hS hL
  exact lv_iand hC.1 hC.2.1 hd (k.2 p l e R s m args below meth c Z dC dI cI cJ cR b B n0 t0 hC hn ht H locs ls hR hS hL)
theorem e_idiv {M : Mt} {sc : Option (Nat × (Nat → Int32))} {pc : Nat} {lv st : List Value} {w : Wd} {r : Option Value} {w' : Wd} {x y : Int32} (hd : decode M.2.2.1 pc = .ok (.idiv, 1)) (hne : ¬ y = 0)
    (k : EW M sc (pc + 1) lv (.int (x / y) :: st) w r w') : EW M sc pc lv (.int y :: .int x :: st) w r w' := by
  refine ⟨k.1, ?_⟩
  intro p l e R s m args below meth c Z dC dI cI cJ cR b B n0 t0 hC hn ht H locs ls hR hS hL
  exact lv_idiv hC.1 hC.2.1 hd hne (k.2 p l e R s m args below meth c Z dC dI cI cJ cR b B n0 t0 hC hn ht H locs ls hR hS hL)
theorem e_irem {M : Mt} {sc : Option (Nat × (Nat → Int32))} {pc : Nat} {lv st : List Value} {w : Wd} {r : Option Value} {w' : Wd} {x y : Int32} (hd : decode M.2.2.1 pc = .ok (.irem, 1)) (hne : ¬ y = 0)
    (k : EW M sc (pc + 1) lv (.int (x - x / y * y) :: st) w r w') : EW M sc pc lv (.int y :: .int x :: st) w r w' := by
  refine ⟨k.1, ?_⟩
  intro p l e R s m args below meth c Z dC dI cI cJ cR b B n0 t0 hC hn ht H locs ls hR hS hL
  exact lv_irem hC.1 hC.2.1 hd hne (k.2 p l e R s m args below meth c Z dC dI cI cJ cR b B n0 t0 hC hn ht H locs ls hR hS hL)
theorem e_ladd {M : Mt} {sc : Option (Nat × (Nat → Int32))} {pc : Nat} {lv st : List Value} {w : Wd} {r : Option Value} {w' : Wd} {x y : Int64} (hd : decode M.2.2.1 pc = .ok (.ladd, 1))
    (k : EW M sc (pc + 1) lv (.long (x + y) :: st) w r w') : EW M sc pc lv (.long y :: .long x :: st) w r w' := by
  refine ⟨k.1, ?_⟩
  intro p l e R s m args below meth c Z dC dI cI cJ cR b B n0 t0 hC hn ht H locs ls hR hS hL
  exact lv_ladd hC.1 hC.2.1 hd (k.2 p l e R s m args below meth c Z dC dI cI cJ cR b B n0 t0 hC hn ht H locs ls hR hS hL)
theorem e_lsub {M : Mt} {sc : Option (Nat × (Nat → Int32))} {pc : Nat} {lv st : List Value} {w : Wd} {r : Option Value} {w' : Wd} {x y : Int64} (hd : decode M.2.2.1 pc = .ok (.lsub, 1))
    (k : EW M sc (pc + 1) lv (.long (x - y) :: st) w r w') : EW M sc pc lv (.long y :: .long x :: st) w r w' := by
  refine ⟨k.1, ?_⟩
  intro p l e R s m args below meth c Z dC dI cI cJ cR b B n0 t0 hC hn ht H locs ls hR hS hL
  exact lv_lsub hC.1 hC.2.1 hd (k.2 p l e R s m args below meth c Z dC dI cI cJ cR b B n0 t0 hC hn ht H locs ls hR hS hL)
theorem e_lmul {M : Mt} {sc : Option (Nat × (Nat → Int32))} {pc : Nat} {lv st : List Value} {w : Wd} {r : Option Value} {w' : Wd} {x y : Int64} (hd : decode M.2.2.1 pc = .ok (.lmul, 1))
    (k : EW M sc (pc + 1) lv (.long (x * y) :: st) w r w') : EW M sc pc lv (.long y :: .long x :: st) w r w' := by
  refine ⟨k.1, ?_⟩
  intro p l e R s m args below meth c Z dC dI cI cJ cR b B n0 t0 hC hn ht H locs ls hR hS hL
  exact lv_lmul hC.1 hC.2.1 hd (k.2 p l e R s m args below meth c Z dC dI cI cJ cR b B n0 t0 hC hn ht H locs ls hR hS hL)
theorem e_land {M : Mt} {sc : Option (Nat × (Nat → Int32))} {pc : Nat} {lv st : List Value} {w : Wd} {r : Option Value} {w' : Wd} {x y : Int64} (hd : decode M.2.2.1 pc = .ok (.land, 1))
    (k : EW M sc (pc + 1) lv (.long (x &&& y) :: st) w r w') : EW M sc pc lv (.long y :: .long x :: st) w r w' := by
  refine ⟨k.1, ?_⟩
  intro p l e R s m args below meth c Z dC dI cI cJ cR b B n0 t0 hC hn ht H locs ls hR hS hL
  exact lv_land hC.1 hC.2.1 hd (k.2 p l e R s m args below meth c Z dC dI cI cJ cR b B n0 t0 hC hn ht H locs ls hR hS hL)
theorem e_lor {M : Mt} {sc : Option (Nat × (Nat → Int32))} {pc : Nat} {lv st : List Value} {w : Wd} {r : Option Value} {w' : Wd} {x y : Int64} (hd : decode M.2.2.1 pc = .ok (.lor, 1))
    (k : EW M sc (pc + 1) lv (.long (x ||| y) :: st) w r w') : EW M sc pc lv (.long y :: .long x :: st) w r w' := by
  refine ⟨k.1, ?_⟩
  intro p l e R s m args below meth c Z dC dI cI cJ cR b B n0 t0 hC hn ht H locs ls hR hS hL
  exact lv_lor hC.1 hC.2.1 hd (k.2 p l e R s m args below meth c Z dC dI cI cJ cR b B n0 t0 hC hn ht H locs ls hR hS hL)
theorem e_lxor {M : Mt} {sc : Option (Nat × (Nat → Int32))} {pc : Nat} {lv st : List Value} {w : Wd} {r : Option Value} {w' : Wd} {x y : Int64} (hd : decode M.2.2.1 pc = .ok (.lxor, 1))
    (k : EW M sc (pc + 1) lv (.long (x ^^^ y) :: st) w r w') : EW M sc pc lv (.long y :: .long x :: st) w r w' := by
  refine ⟨k.1, ?_⟩
  intro p l e R s m args below meth c Z dC dI cI cJ cR b B n0 t0 hC hn ht H locs ls hR hS hL
  exact lv_lxor hC.1 hC.2.1 hd (k.2 p l e R s m args below meth c Z dC dI cI cJ cR b B n0 t0 hC hn ht H locs ls hR hS hL)
theorem e_ldiv {M : Mt} {sc : Option (Nat × (Nat → Int32))} {pc : Nat} {lv st : List Value} {w : Wd} {r : Option Value} {w' : Wd} {x y : Int64} (hd : decode M.2.2.1 pc = .ok (.ldiv, 1)) (hne : ¬ y = 0)
    (k : EW M sc (pc + 1) lv (.long (x / y) :: st) w r w') : EW M sc pc lv (.long y :: .long x :: st) w r w' := by
  refine ⟨k.1, ?_⟩
  intro p l e R s m args below meth c Z dC dI cI cJ cR b B n0 t0 hC hn ht H locs ls hR hS hL
  exact lv_ldiv hC.1 hC.2.1 hd hne (k.2 p l e R s m args below meth c Z dC dI cI cJ cR b B n0 t0 hC hn ht H locs ls hR hS hL)
theorem e_i2l {M : Mt} {sc : Option (Nat × (Nat → Int32))} {pc : Nat} {lv st : List Value} {w : Wd} {r : Option Value} {w' : Wd} {x : Int32} (hd : decode M.2.2.1 pc = .ok (.i2l, 1))
    (k : EW M sc (pc + 1) lv (.long x.toInt64 :: st) w r w') : EW M sc pc lv (.int x :: st) w r w' := by
  refine ⟨k.1, ?_⟩
  intro p l e R s m args below meth c Z dC dI cI cJ cR b B n0 t0 hC hn ht H locs ls hR hS hL
  exact lv_i2l hC.1 hC.2.1 hd rfl (k.2 p l e R s m args below meth c Z dC dI cI cJ cR b B n0 t0 hC hn ht H locs ls hR hS hL)
theorem e_l2i {M : Mt} {sc : Option (Nat × (Nat → Int32))} {pc : Nat} {lv st : List Value} {w : Wd} {r : Option Value} {w' : Wd} {x : Int64} (hd : decode M.2.2.1 pc = .ok (.l2i, 1))
    (k : EW M sc (pc + 1) lv (.int x.toInt32 :: st) w r w') : EW M sc pc lv (.long x :: st) w r w' := by
  refine ⟨k.1, ?_⟩
  intro p l e R s m args below meth c Z dC dI cI cJ cR b B n0 t0 hC hn ht H locs ls hR hS hL
  exact lv_l2i hC.1 hC.2.1 hd rfl (k.2 p l e R s m args below meth c Z dC dI cI cJ cR b B n0 t0 hC hn ht H locs ls hR hS hL)
theorem e_lushr {M : Mt} {sc : Option (Nat × (Nat → Int32))} {pc : Nat} {lv st : List Value} {w : Wd} {r : Option Value} {w' : Wd} {x : Int64} {y : Int32} (hd : decode M.2.2.1 pc = .ok (.lushr, 1))
    (k : EW M sc (pc + 1) lv (.long (x.toUInt64 >>> (y.toInt64.toUInt64 &&& Int64.toUInt64 63)).toInt64 :: st) w r w') : EW M sc pc lv (.int y :: .long x :: st) w r w' := by
  refine ⟨k.1, ?_⟩
  intro p l e R s m args below meth c Z dC dI cI cJ cR b B n0 t0 hC hn ht H locs ls hR hS hL
  exact lv_lushr hC.1 hC.2.1 hd rfl (k.2 p l e R s m args below meth c Z dC dI cI cJ cR b B n0 t0 hC hn ht H locs ls hR hS hL)
theorem e_lshl {M : Mt} {sc : Option (Nat × (Nat → Int32))} {pc : Nat} {lv st : List Value} {w : Wd} {r : Option Value} {w' : Wd} {x : Int64} {y : Int32} (hd : decode M.2.2.1 pc = .ok (.lshl, 1))
    (k : EW M sc (pc + 1) lv (.long (x <<< (y.toInt64 &&& 63)) :: st) w r w') : EW M sc pc lv (.int y :: .long x :: st) w r w' := by
  refine ⟨k.1, ?_⟩
  intro p l e R s m args below meth c Z dC dI cI cJ cR b B n0 t0 hC hn ht H locs ls hR hS hL
  exact lv_lshl hC.1 hC.2.1 hd rfl (k.2 p l e R s m args below meth c Z dC dI cI cJ cR b B n0 t0 hC hn ht H locs ls hR hS hL)
theorem e_lshr {M : Mt} {sc : Option (Nat × (Nat → Int32))} {pc : Nat} {lv st : List Value} {w : Wd} {r : Option Value} {w' : Wd} {x : Int64} {y : Int32} (hd : decode M.2.2.1 pc = .ok (.lshr, 1))
    (k : EW M sc (pc + 1) lv (.long (x >>> (y.toInt64 &&& 63)) :: st) w r w') : EW M sc pc lv (.int y :: .long x :: st) w r w' := by
  refine ⟨k.1, ?_⟩
  intro p l e R s m args below meth c Z dC dI cI cJ cR b B n0 t0 hC hn ht H locs ls hR hS hL
  exact lv_lshr hC.1 hC.2.1 hd rfl (k.2 p l e R s m args below meth c Z dC dI cI cJ cR b B n0 t0 hC hn ht H locs ls hR hS hL)
theorem e_lcmp {M : Mt} {sc : Option (Nat × (Nat → Int32))} {pc : Nat} {lv st : List Value} {w : Wd} {r : Option Value} {w' : Wd} {x y : Int64} (hd : decode M.2.2.1 pc = .ok (.lcmp, 1))
    (k : EW M sc (pc + 1) lv (.int (lg_cmp x y) :: st) w r w') : EW M sc pc lv (.long y :: .long x :: st) w r w' := by
  refine ⟨k.1, ?_⟩
  intro p l e R s m args below meth c Z dC dI cI cJ cR b B n0 t0 hC hn ht H locs ls hR hS hL
  exact W.lcmp hC.1 hC.2.1 hd (k.2 p l e R s m args below meth c Z dC dI cI cJ cR b B n0 t0 hC hn ht H locs ls hR hS hL)
theorem e_dup {M : Mt} {sc : Option (Nat × (Nat → Int32))} {pc : Nat} {lv st : List Value} {w : Wd} {r : Option Value} {w' : Wd} {v : Value} (hd : decode M.2.2.1 pc = .ok (.dup, 1)) (hv : v.category = 1)
    (k : EW M sc (pc + 1) lv (v :: v :: st) w r w') : EW M sc pc lv (v :: st) w r w' := by
  refine ⟨k.1, ?_⟩
  intro p l e R s m args below meth c Z dC dI cI cJ cR b B n0 t0 hC hn ht H locs ls hR hS hL
  exact lv_dup hC.1 hC.2.1 hd ((rv_cat b B v).trans hv) (k.2 p l e R s m args below meth c Z dC dI cI cJ cR b B n0 t0 hC hn ht H locs ls hR hS hL)
theorem e_pop {M : Mt} {sc : Option (Nat × (Nat → Int32))} {pc : Nat} {lv st : List Value} {w : Wd} {r : Option Value} {w' : Wd} {v : Value} (hd : decode M.2.2.1 pc = .ok (.pop, 1)) (hv : v.category = 1)
    (k : EW M sc (pc + 1) lv st w r w') : EW M sc pc lv (v :: st) w r w' := by
  refine ⟨k.1, ?_⟩
  intro p l e R s m args below meth c Z dC dI cI cJ cR b B n0 t0 hC hn ht H locs ls hR hS hL
  exact lv_pop hC.1 hC.2.1 hd ((rv_cat b B v).trans hv) (k.2 p l e R s m args below meth c Z dC dI cI cJ cR b B n0 t0 hC hn ht H locs ls hR hS hL)
theorem e_dup2 {M : Mt} {sc : Option (Nat × (Nat → Int32))} {pc : Nat} {lv st : List Value} {w : Wd} {r : Option Value} {w' : Wd} {v u : Value} (hd : decode M.2.2.1 pc = .ok (.dup2, 1)) (hv : v.category = 1) (hu : u.category = 1)
    (k : EW M sc (pc + 1) lv (v :: u :: v :: u :: st) w r w') : EW M sc pc lv (v :: u :: st) w r w' := by
  refine ⟨k.1, ?_⟩
  intro p l e R s m args below meth c Z dC dI cI cJ cR b B n0 t0 hC hn ht H locs ls hR hS hL
  exact lv_dup2_11 hC.1 hC.2.1 hd ((rv_cat b B v).trans hv) ((rv_cat b B u).trans hu) (k.2 p l e R s m args below meth c Z dC dI cI cJ cR b B n0 t0 hC hn ht H locs ls hR hS hL)
theorem e_ldc2 {M : Mt} {sc : Option (Nat × (Nat → Int32))} {pc : Nat} {lv st : List Value} {w : Wd} {r : Option Value} {w' : Wd} {n : Nat} {v : Int64} (hd : decode M.2.2.1 pc = .ok (.ldc2_w n, 3)) (hk : Cond.constantLong M.1 n v ∈ lw_tbl)
    (k : EW M sc (pc + 3) lv (.long v :: st) w r w') : EW M sc pc lv st w r w' := by
  refine ⟨k.1, ?_⟩
  intro p l e R s m args below meth c Z dC dI cI cJ cR b B n0 t0 hC hn ht H locs ls hR hS hL
  exact lv_ldc2 hC.1 hC.2.1 hC.2.2.2.1 (hC.2.2.2.2.1 _ (TG_in hk rfl)) hd (k.2 p l e R s m args below meth c Z dC dI cI cJ cR b B n0 t0 hC hn ht H locs ls hR hS hL)
theorem e_goto {M : Mt} {sc : Option (Nat × (Nat → Int32))} {pc : Nat} {lv st : List Value} {w : Wd} {r : Option Value} {w' : Wd} {off : Int} (tgt : Nat) (hd : decode M.2.2.1 pc = .ok (.goto off, 3)) (ht9 : (pc : Int) + off = (tgt : Int))
    (k : EW M sc tgt lv st w r w') : EW M sc pc lv st w r w' := by
  refine ⟨k.1, ?_⟩
  intro p l e R s m args below meth c Z dC dI cI cJ cR b B n0 t0 hC hn ht H locs ls hR hS hL
  exact lv_goto hC.1 hC.2.1 hd ht9 (k.2 p l e R s m args below meth c Z dC dI cI cJ cR b B n0 t0 hC hn ht H locs ls hR hS hL)
theorem e_if_eq {M : Mt} {sc : Option (Nat × (Nat → Int32))} {pc : Nat} {lv st : List Value} {w : Wd} {r : Option Value} {w' : Wd} {x : Int32} {off : Int} (tgt : Nat) (hd : decode M.2.2.1 pc = .ok (.ifCond .eq off, 3)) (ht9 : (pc : Int) + off = (tgt : Int))
    (kt : x = 0 → EW M sc tgt lv st w r w') (kf : ¬ x = 0 → EW M sc (pc + 3) lv st w r w') : EW M sc pc lv (.int x :: st) w r w' := by
  refine ⟨(Decidable.em (x = 0)).elim (fun h => (kt h).1) (fun h => (kf (by first | exact h | exact Decidable.not_not.mp h)).1), ?_⟩
  intro p l e R s m args below meth c Z dC dI cI cJ cR b B n0 t0 hC hn ht H locs ls hR hS hL
  exact lv_if_eq hC.1 hC.2.1 hd ht9 (fun h9 => (kt h9).2 p l e R s m args below meth c Z dC dI cI cJ cR b B n0 t0 hC hn ht H locs ls hR hS hL) (fun h9 => (kf h9).2 p l e R s m args below meth c Z dC dI cI cJ cR b B n0 t0 hC hn ht H locs ls hR hS hL)
theorem e_icmp_eq {M : Mt} {sc : Option (Nat × (Nat → Int32))} {pc : Nat} {lv st : List Value} {w : Wd} {r : Option Value} {w' : Wd} {x y : Int32} {off : Int} (tgt : Nat) (hd : decode M.2.2.1 pc = .ok (.if_icmp .eq off, 3)) (ht9 : (pc : Int) + off = (tgt : Int))
    (kt : x = y → EW M sc tgt lv st w r w') (kf : ¬ x = y → EW M sc (pc + 3) lv st w r w') : EW M sc pc lv (.int y :: .int x :: st) w r w' := by
  refine ⟨(Decidable.em (x = y)).elim (fun h => (kt h).1) (fun h => (kf (by first | exact h | exact Decidable.not_not.mp h)).1), ?_⟩
  intro p l e R s m args below meth c Z dC dI cI cJ cR b B n0 t0 hC hn ht H locs ls hR hS hL
  exact lv_icmp_eq hC.1 hC.2.1 hd ht9 (fun h9 => (kt h9).2 p l e R s m args below meth c Z dC dI cI cJ cR b B n0 t0 hC hn ht H locs ls hR hS hL) (fun h9 => (kf h9).2 p l e R s m args below meth c Z dC dI cI cJ cR b B n0 t0 hC hn ht H locs ls hR hS hL)
theorem e_if_ne {M : Mt} {sc : Option (Nat × (Nat → Int32))} {pc : Nat} {lv st : List Value} {w : Wd} {r : Option Value} {w' : Wd} {x : Int32} {off : Int} (tgt : Nat) (hd : decode M.2.2.1 pc = .ok (.ifCond .ne off, 3)) (ht9 : (pc : Int) + off = (tgt : Int))
    (kt : ¬ x = 0 → EW M sc tgt lv st w r w') (kf : x = 0 → EW M sc (pc + 3) lv st w r w') : EW M sc pc lv (.int x :: st) w r w' := by
  refine ⟨(Decidable.em (¬ x = 0)).elim (fun h => (kt h).1) (fun h => (kf (by first | exact h | exact Decidable.not_not.mp h)).1), ?_⟩
  intro p l e R s m args below meth c Z dC dI cI cJ cR b B n0 t0 hC hn ht H locs ls hR hS hL
  exact lv_if_ne hC.1 hC.2.1 hd ht9 (fun h9 => (kt h9).2 p l e R s m args below meth c Z dC dI cI cJ cR b B n0 t0 hC hn ht H locs ls hR hS hL) (fun h9 => (kf h9).2 p l e R s m args below meth c Z dC dI cI cJ cR b B n0 t0 hC hn ht H locs ls hR hS hL)
theorem e_icmp_ne {M : Mt} {sc : Option (Nat × (Nat → Int32))} {pc : Nat} {lv st : List Value} {w : Wd} {r : Option Value} {w' : Wd} {x y : Int32} {off : Int} (tgt : Nat) (hd : decode M.2.2.1 pc = .ok (.if_icmp .ne off, 3)) (ht9 : (pc : Int) + off = (tgt : Int))
    (kt : ¬ x = y → EW M sc tgt lv st w r w') (kf : x = y → EW M sc (pc + 3) lv st w r w') : EW M sc pc lv (.int y :: .int x :: st) w r w' := by
  refine ⟨(Decidable.em (¬ x = y)).elim (fun h => (kt h).1) (fun h => (kf (by first | exact h | exact Decidable.not_not.mp h)).1), ?_⟩
  intro p l e R s m args below meth c Z dC dI cI cJ cR b B n0 t0 hC hn ht H locs ls hR hS hL
  exact lv_icmp_ne hC.1 hC.2.1 hd ht9 (fun h9 => (kt h9).2 p l e R s m args below meth c Z dC dI cI cJ cR b B n0 t0 hC hn ht H locs ls hR hS hL) (fun h9 => (kf h9).2 p l e R s m args below meth c Z dC dI cI cJ cR b B n0 t0 hC hn ht H locs ls hR hS hL)
theorem e_if_lt {M : Mt} {sc : Option (Nat × (Nat → Int32))} {pc : Nat} {lv st : List Value} {w : Wd} {r : Option Value} {w' : Wd} {x : Int32} {off : Int} (tgt : Nat) (hd : decode M.2.2.1 pc = .ok (.ifCond .lt off, 3)) (ht9 : (pc : Int) + off = (tgt : Int))
    (kt : x < 0 → EW M sc tgt lv st w r w') (kf : ¬ x < 0 → EW M sc (pc + 3) lv st w r w') : EW M sc pc lv (.int x :: st) w r w' := by
  refine ⟨(Decidable.em (x < 0)).elim (fun h => (kt h).1) (fun h => (kf (by first | exact h | exact Decidable.not_not.mp h)).1), ?_⟩
  intro p l e R s m args below meth c Z dC dI cI cJ cR b B n0 t0 hC hn ht H locs ls hR hS hL
  exact lv_if_lt hC.1 hC.2.1 hd ht9 (fun h9 => (kt h9).2 p l e R s m args below meth c Z dC dI cI cJ cR b B n0 t0 hC hn ht H locs ls hR hS hL) (fun h9 => (kf h9).2 p l e R s m args below meth c Z dC dI cI cJ cR b B n0 t0 hC hn ht H locs ls hR hS hL)
theorem e_icmp_lt {M : Mt} {sc : Option (Nat × (Nat → Int32))} {pc : Nat} {lv st : List Value} {w : Wd} {r : Option Value} {w' : Wd} {x y : Int32} {off : Int} (tgt : Nat) (hd : decode M.2.2.1 pc = .ok (.if_icmp .lt off, 3)) (ht9 : (pc : Int) + off = (tgt : Int))
    (kt : x < y → EW M sc tgt lv st w r w') (kf : ¬ x < y → EW M sc (pc + 3) lv st w r w') : EW M sc pc lv (.int y :: .int x :: st) w r w' := by
  refine ⟨(Decidable.em (x < y)).elim (fun h => (kt h).1) (fun h => (kf (by first | exact h | exact Decidable.not_not.mp h)).1), ?_⟩
  intro p l e R s m args below meth c Z dC dI cI cJ cR b B n0 t0 hC hn ht H locs ls hR hS hL
  exact lv_icmp_lt hC.1 hC.2.1 hd ht9 (fun h9 => (kt h9).2 p l e R s m args below meth c Z dC dI cI cJ cR b B n0 t0 hC hn ht H locs ls hR hS hL) (fun h9 => (kf h9).2 p l e R s m args below meth c Z dC dI cI cJ cR b B n0 t0 hC hn ht H locs ls hR hS hL)
theorem e_if_ge {M : Mt} {sc : Option (Nat × (Nat → Int32))} {pc : Nat} {lv st : List Value} {w : Wd} {r : Option Value} {w' : Wd} {x : Int32} {off : Int} (tgt : Nat) (hd : decode M.2.2.1 pc = .ok (.ifCond .ge off, 3)) (ht9 : (pc : Int) + off = (tgt : Int))
    (kt : 0 ≤ x → EW M sc tgt lv st w r w') (kf : ¬ 0 ≤ x → EW M sc (pc + 3) lv st w r w') : EW M sc pc lv (.int x :: st) w r w' := by
  refine ⟨(Decidable.em (0 ≤ x)).elim (fun h => (kt h).1) (fun h => (kf (by first | exact h | exact Decidable.not_not.mp h)).1), ?_⟩
  intro p l e R s m args below meth c Z dC dI cI cJ cR b B n0 t0 hC hn ht H locs ls hR hS hL
  exact lv_if_ge hC.1 hC.2.1 hd ht9 (fun h9 => (kt h9).2 p l e R s m args below meth c Z dC dI cI cJ cR b B n0 t0 hC hn ht H locs ls hR hS hL) (fun h9 => (kf h9).2 p l e R s m args below meth c Z dC dI cI cJ cR b B n0 t0 hC hn ht H locs ls hR hS hL)
theorem e_icmp_ge {M : Mt} {sc : Option (Nat × (Nat → Int32))} {pc : Nat} {lv st : List Value} {w : Wd} {r : Option Value} {w' : Wd} {x y : Int32} {off : Int} (tgt : Nat) (hd : decode M.2.2.1 pc = .ok (.if_icmp .ge off, 3)) (ht9 : (pc : Int) + off = (tgt : Int))
    (kt : y ≤ x → EW M sc tgt lv st w r w') (kf : ¬ y ≤ x → EW M sc (pc + 3) lv st w r w') : EW M sc pc lv (.int y :: .int x :: st) w r w' := by
  refine ⟨(Decidable.em (y ≤ x)).elim (fun h => (kt h).1) (fun h => (kf (by first | exact h | exact Decidable.not_not.mp h)).1), ?_⟩
  intro p l e R s m args below meth c Z dC dI cI cJ cR b B n0 t0 hC hn ht H locs ls hR hS hL
  exact lv_icmp_ge hC.1 hC.2.1 hd ht9 (fun h9 => (kt h9).2 p l e R s m args below meth c Z dC dI cI cJ cR b B n0 t0 hC hn ht H locs ls hR hS hL) (fun h9 => (kf h9).2 p l e R s m args below meth c Z dC dI cI cJ cR b B n0 t0 hC hn ht H locs ls hR hS hL)
theorem e_if_gt {M : Mt} {sc : Option (Nat × (Nat → Int32))} {pc : Nat} {lv st : List Value} {w : Wd} {r : Option Value} {w' : Wd} {x : Int32} {off : Int} (tgt : Nat) (hd : decode M.2.2.1 pc = .ok (.ifCond .gt off, 3)) (ht9 : (pc : Int) + off = (tgt : Int))
    (kt : 0 < x → EW M sc tgt lv st w r w') (kf : ¬ 0 < x → EW M sc (pc + 3) lv st w r w') : EW M sc pc lv (.int x :: st) w r w' := by
  refine ⟨(Decidable.em (0 < x)).elim (fun h => (kt h).1) (fun h => (kf (by first | exact h | exact Decidable.not_not.mp h)).1), ?_⟩
  intro p l e R s m args below meth c Z dC dI cI cJ cR b B n0 t0 hC hn ht H locs ls hR hS hL
  exact lv_if_gt hC.1 hC.2.1 hd ht9 (fun h9 => (kt h9).2 p l e R s m args below meth c Z dC dI cI cJ cR b B n0 t0 hC hn ht H locs ls hR hS hL) (fun h9 => (kf h9).2 p l e R s m args below meth c Z dC dI cI cJ cR b B n0 t0 hC hn ht H locs ls hR hS hL)
theorem e_icmp_gt {M : Mt} {sc : Option (Nat × (Nat → Int32))} {pc : Nat} {lv st : List Value} {w : Wd} {r : Option Value} {w' : Wd} {x y : Int32} {off : Int} (tgt : Nat) (hd : decode M.2.2.1 pc = .ok (.if_icmp .gt off, 3)) (ht9 : (pc : Int) + off = (tgt : Int))
    (kt : y < x → EW M sc tgt lv st w r w') (kf : ¬ y < x → EW M sc (pc + 3) lv st w r w') : EW M sc pc lv (.int y :: .int x :: st) w r w' := by
  refine ⟨(Decidable.em (y < x)).elim (fun h => (kt h).1) (fun h => (kf (by first | exact h | exact Decidable.not_not.mp h)).1), ?_⟩
  intro p l e R s m args below meth c Z dC dI cI cJ cR b B n0 t0 hC hn ht H locs ls hR hS hL
  exact lv_icmp_gt hC.1 hC.2.1 hd ht9 (fun h9 => (kt h9).2 p l e R s m args below meth c Z dC dI cI cJ cR b B n0 t0 hC hn ht H locs ls hR hS hL) (fun h9 => (kf h9).2 p l e R s m args below meth c Z dC dI cI cJ cR b B n0 t0 hC hn ht H locs ls hR hS hL)
theorem e_if_le {M : Mt} {sc : Option (Nat × (Nat → Int32))} {pc : Nat} {lv st : List Value} {w : Wd} {r : Option Value} {w' : Wd} {x : Int32} {off : Int} (tgt : Nat) (hd : decode M.2.2.1 pc = .ok (.ifCond .le off, 3)) (ht9 : (pc : Int) + off = (tgt : Int))
    (kt : x ≤ 0 → EW M sc tgt lv st w r w') (kf : ¬ x ≤ 0 → EW M sc (pc + 3) lv st w r w') : EW M sc pc lv (.int x :: st) w r w' := by
  refine ⟨(Decidable.em (x ≤ 0)).elim (fun h => (kt h).1) (fun h => (kf (by first | exact h | exact Decidable.not_not.mp h)).1), ?_⟩
  intro p l e R s m args below meth c Z dC dI cI cJ cR b B n0 t0 hC hn ht H locs ls hR hS hL
  exact lv_if_le hC.1 hC.2.1 hd ht9 (fun h9 => (kt h9).2 p l e R s m args below meth c Z dC dI cI cJ cR b B n0 t0 hC hn ht H locs ls hR hS hL) (fun h9 => (kf h9).2 p l e R s m args below meth c Z dC dI cI cJ cR b B n0 t0 hC hn ht H locs ls hR hS hL)
theorem e_icmp_le {M : Mt} {sc : Option (Nat × (Nat → Int32))} {pc : Nat} {lv st : List Value} {w : Wd} {r : Option Value} {w' : Wd} {x y : Int32} {off : Int} (tgt : Nat) (hd : decode M.2.2.1 pc = .ok (.if_icmp .le off, 3)) (ht9 : (pc : Int) + off = (tgt : Int))
    (kt : x ≤ y → EW M sc tgt lv st w r w') (kf : ¬ x ≤ y → EW M sc (pc + 3) lv st w r w') : EW M sc pc lv (.int y :: .int x :: st) w r w' := by
  refine ⟨(Decidable.em (x ≤ y)).elim (fun h => (kt h).1) (fun h => (kf (by first | exact h | exact Decidable.not_not.mp h)).1), ?_⟩
  intro p l e R s m args below meth c Z dC dI cI cJ cR b B n0 t0 hC hn ht H locs ls hR hS hL
  exact lv_icmp_le hC.1 hC.2.1 hd ht9 (fun h9 => (kt h9).2 p l e R s m args below meth c Z dC dI cI cJ cR b B n0 t0 hC hn ht H locs ls hR hS hL) (fun h9 => (kf h9).2 p l e R s m args below meth c Z dC dI cI cJ cR b B n0 t0 hC hn ht H locs ls hR hS hL)
theorem e_tabIn {M : Mt} {sc : Option (Nat × (Nat → Int32))} {pc : Nat} {lv st : List Value} {w : Wd} {r : Option Value} {w' : Wd} {dflt lo hi off : Int} {offs : Array Int} {len : Nat} {x : Int32} (tgt : Nat) (hd : decode M.2.2.1 pc = .ok (.tableswitch dflt lo hi offs, len)) (h1 : ¬ x.toInt < lo) (h2 : ¬ hi < x.toInt) (ho : offs[(x.toInt - lo).toNat]? = some off) (ht9 : (pc : Int) + off = (tgt : Int))
    (k : EW M sc tgt lv st w r w') : EW M sc pc lv (.int x :: st) w r w' := by
  refine ⟨k.1, ?_⟩
  intro p l e R s m args below meth c Z dC dI cI cJ cR b B n0 t0 hC hn ht H locs ls hR hS hL
  exact lv_tableIn hC.1 hC.2.1 hd h1 h2 ho ht9 (k.2 p l e R s m args below meth c Z dC dI cI cJ cR b B n0 t0 hC hn ht H locs ls hR hS hL)
theorem e_tabOut {M : Mt} {sc : Option (Nat × (Nat → Int32))} {pc : Nat} {lv st : List Value} {w : Wd} {r : Option Value} {w' : Wd} {dflt lo hi : Int} {offs : Array Int} {len : Nat} {x : Int32} (tgt : Nat) (hd : decode M.2.2.1 pc = .ok (.tableswitch dflt lo hi offs, len)) (h1 : x.toInt < lo ∨ hi < x.toInt) (ht9 : (pc : Int) + dflt = (tgt : Int))
    (k : EW M sc tgt lv st w r w') : EW M sc pc lv (.int x :: st) w r w' := by
  refine ⟨k.1, ?_⟩
  intro p l e R s m args below meth c Z dC dI cI cJ cR b B n0 t0 hC hn ht H locs ls hR hS hL
  exact lv_tableOut hC.1 hC.2.1 hd h1 ht9 (k.2 p l e R s m args below meth c Z dC dI cI cJ cR b B n0 t0 hC hn ht H locs ls hR hS hL)
theorem e_drop {M : Mt} {sc : Option (Nat × (Nat → Int32))} {pc : Nat} {lv st : List Value} {w : Wd} {r : Option Value} {w' : Wd} (i : Nat) (k : EW M sc pc (lv.set i dmy) st w r w') : EW M sc pc lv st w r w' := by
  refine ⟨k.1, ?_⟩
  intro p l e R s m args below meth c Z dC dI cI cJ cR b B n0 t0 hC hn ht H locs ls hR hS hL
  exact k.2 p l e R s m args below meth c Z dC dI cI cJ cR b B n0 t0 hC hn ht H locs ls hR hS (hL.drop i)
theorem e_sld {M : Mt} {sc : Option (Nat × (Nat → Int32))} {pc : Nat} {lv st : List Value} {w : Wd} {r : Option Value} {w' : Wd} {L : Nat} {xs : Nat → Int32} {i : Int32} (hd : decode M.2.2.1 pc = .ok (.iaload, 1)) (hin : vp_in i L)
    (k : EW M (some (L, xs)) (pc + 1) lv (.int (xs i.toNatClampNeg) :: st) w r w') : EW M (some (L, xs)) pc lv (.int i :: .ref 0 :: st) w r w' := by
  refine ⟨k.1, ?_⟩
  intro p l e R s m args below meth c Z dC dI cI cJ cR b B n0 t0 hC hn ht H locs ls hR hS hL
  obtain ⟨hX, hbl, hbB⟩ := hC.2.2.2.2.2.2.1 L xs rfl
  exact va_sld (A := fun q => B < q) hC.1 hC.2.1 hX hbl (Nat.not_lt.mpr hbB) hS hin hd (k.2 p l e R s m args below meth c Z dC dI cI cJ cR b B n0 t0 hC hn ht H locs ls hR hS hL)
theorem e_slen {M : Mt} {sc : Option (Nat × (Nat → Int32))} {pc : Nat} {lv st : List Value} {w : Wd} {r : Option Value} {w' : Wd} {L : Nat} {xs : Nat → Int32} (hd : decode M.2.2.1 pc = .ok (.arraylength, 1))
    (k : EW M (some (L, xs)) (pc + 1) lv (.int (Int32.ofNat L) :: st) w r w') : EW M (some (L, xs)) pc lv (.ref 0 :: st) w r w' := by
  refine ⟨k.1, ?_⟩
  intro p l e R s m args below meth c Z dC dI cI cJ cR b B n0 t0 hC hn ht H locs ls hR hS hL
  obtain ⟨hX, hbl, hbB⟩ := hC.2.2.2.2.2.2.1 L xs rfl
  exact va_slen (A := fun q => B < q) hC.1 hC.2.1 hX hbl (Nat.not_lt.mpr hbB) hS hd (k.2 p l e R s m args below meth c Z dC dI cI cJ cR b B n0 t0 hC hn ht H locs ls hR hS hL)
theorem e_ret {M : Mt} {sc : Option (Nat × (Nat → Int32))} {pc : Nat} {lv st : List Value} {w : Wd} {r : Option Value} {w' : Wd} {ins : Instr} (hd : decode M.2.2.1 pc = .ok (ins, 1)) (hr : RetOK M.2.2.2.2.1 ins r) (hst : st = r.toList) (hw : w = w') : EW M sc pc lv st w r w' := by
  subst hw
  subst hst
  refine ⟨⟨Nat.le_refl _, Nat.le_refl _⟩, ?_⟩
  intro p l e R s m args below meth c Z dC dI cI cJ cR b B n0 t0 hC hn ht H locs ls hR hS hL
  have := hC.2.2.2.2.2.2.2.2.2.2 H locs pc ls ins hR hS hd hr
  cases r <;> exact this
theorem e_iret {M : Mt} {sc : Option (Nat × (Nat → Int32))} {pc : Nat} {lv : List Value} {w : Wd} {r : Option Value} {w' : Wd} {x : Int32} (hd : decode M.2.2.1 pc = .ok (.ireturn, 1)) (ht : M.2.2.2.2.1 = some .int) (hr : r = some (.int x)) (hw : w = w') : EW M sc pc lv [.int x] w r w' :=
  e_ret hd (Or.inl ⟨rfl, ht, x, hr⟩) (by rw [hr]; rfl) hw
theorem e_zret {M : Mt} {sc : Option (Nat × (Nat → Int32))} {pc : Nat} {lv : List Value} {w : Wd} {r : Option Value} {w' : Wd} {x : Int32} (hd : decode M.2.2.1 pc = .ok (.ireturn, 1)) (ht : M.2.2.2.2.1 = some .boolean) (hx : x &&& 1 = x) (hr : r = some (.int x)) (hw : w = w') : EW M sc pc lv [.int x] w r w' :=
  e_ret hd (Or.inr (Or.inl ⟨rfl, ht, x, hr, hx⟩)) (by rw [hr]; rfl) hw
theorem e_lret {M : Mt} {sc : Option (Nat × (Nat → Int32))} {pc : Nat} {lv : List Value} {w : Wd} {r : Option Value} {w' : Wd} {x : Int64} (hd : decode M.2.2.1 pc = .ok (.lreturn, 1)) (ht : M.2.2.2.2.1 = some .long) (hr : r = some (.long x)) (hw : w = w') : EW M sc pc lv [.long x] w r w' :=
  e_ret hd (Or.inr (Or.inr (Or.inl ⟨rfl, ht, x, hr⟩))) (by rw [hr]; rfl) hw
theorem e_vret {M : Mt} {sc : Option (Nat × (Nat → Int32))} {pc : Nat} {lv : List Value} {w : Wd} {r : Option Value} {w' : Wd} (hd : decode M.2.2.1 pc = .ok (.return_, 1)) (ht : M.2.2.2.2.1 = none) (hr : r = none) (hw : w = w') : EW M sc pc lv [] w r w' :=
  e_ret hd (Or.inr (Or.inr (Or.inr (Or.inl ⟨rfl, ht, hr⟩)))) (by rw [hr]; rfl) hw
theorem e_aret {M : Mt} {sc : Option (Nat × (Nat → Int32))} {pc : Nat} {lv : List Value} {w : Wd} {r : Option Value} {w' : Wd} {i : Nat} {n : String} (hd : decode M.2.2.1 pc = .ok (.areturn, 1)) (ht : M.2.2.2.2.1 = some (.object n)) (hr : r = some (.ref i)) (hw : w = w') : EW M sc pc lv [.ref i] w r w' :=
  e_ret hd (Or.inr (Or.inr (Or.inr (Or.inr ⟨rfl, ⟨n, ht⟩, i, hr⟩)))) (by rw [hr]; rfl) hw
