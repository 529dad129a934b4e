/-! THE PROGRAM: its methods and links (written by a program) -/
def mV (M : Mt) (n ci : Nat) : Prop := mFx M n ∧ Cond.instanceMethod M.2.1 ∈ lw_tbl ∧ Cond.selects M.2.1.cls M.2.1 M.2.1 ∈ lw_tbl ∧ ∃ (T : u_T) (N : Nat), vwCl[ci]? = some (M.2.1.cls, T, N)
def mS (M : Mt) (n : Nat) : Prop := mFx M n ∧ Cond.static M.2.1 ∈ lw_tbl
def mI (M : Mt) (n : Nat) : Prop := mFx M n ∧ Cond.instanceMethod M.2.1 ∈ lw_tbl ∧ M.2.1.name = "<init>" ∧ M.2.2.2.2.1 = none
theorem c_V {M M' : Mt} {sc : Option (Nat × (Nat → Int32))} {pc idx i ci n : Nat} {lv st As rest fs : List Value} {w w1 : Wd} {r r1 : Option Value} {w' : Wd} (hd : decode M.2.2.1 pc = .ok (.invokevirtual idx, 3)) (hl : mLk M.1 idx M'.2.1) (hf : mV M' n ci) (hdp : M'.2.2.2.2.2 + 1 ≤ M.2.2.2.2.2)
    (hc : CW M' (.ref i :: As) w r1 w1) (hw : w[i]? = some (oB ci fs)) (hst : st = As.reverse ++ .ref i :: rest) (hlen : As.length = n) (hsum : (rest.map Value.category).sum ≤ 8) (kk : EW M sc (pc + 3) lv (r1.toList ++ rest) w1 r w') : EW M sc pc lv st w r w' := by
  obtain ⟨h1, h2, h3, T, N, h4⟩ := hf
  exact e_callV hd hl h1 h2 h3 h4 hdp hc hw hst hlen hsum kk
theorem c_S {M M' : Mt} {sc : Option (Nat × (Nat → Int32))} {pc idx n : Nat} {lv st As rest : List Value} {w w1 : Wd} {r r1 : Option Value} {w' : Wd} (hd : decode M.2.2.1 pc = .ok (.invokestatic idx, 3)) (hl : mLk M.1 idx M'.2.1) (hf : mS M' n) (hdp : M'.2.2.2.2.2 + 1 ≤ M.2.2.2.2.2)
    (hc : CW M' As w r1 w1) (hst : st = As.reverse ++ rest) (hlen : As.length = n) (hsum : (rest.map Value.category).sum ≤ 8) (kk : EW M sc (pc + 3) lv (r1.toList ++ rest) w1 r w') : EW M sc pc lv st w r w' := e_callS hd hl hf.1 hf.2 hdp hc hst hlen hsum kk
theorem c_I {M M' : Mt} {sc : Option (Nat × (Nat → Int32))} {pc idx i n : Nat} {lv st As rest : List Value} {w w1 : Wd} {r : Option Value} {w' : Wd} (hd : decode M.2.2.1 pc = .ok (.invokespecial idx, 3)) (hl : mLk M.1 idx M'.2.1) (hf : mI M' n) (hdp : M'.2.2.2.2.2 + 1 ≤ M.2.2.2.2.2) (hi : i ≠ 0)
    (hc : CW M' (.ref i :: As) w none w1) (hst : st = As.reverse ++ .ref i :: rest) (hlen : As.length = n) (hsum : (rest.map Value.category).sum ≤ 8) (kk : EW M sc (pc + 3) lv rest w1 r w') : EW M sc pc lv st w r w' := e_callI hd hl hf.1 hf.2.1 hf.2.2.1 hf.2.2.2 hdp hi hc hst hlen hsum kk
abbrev mX6_init : Mt := (RX6, yX6_init, cX6_init, 2, none, 3)
theorem fx_X6_init : Cond.code yX6_init cX6_init 2 none ∈ lw_tbl ∧ Cond.initialized yX6_init.cls ∈ lw_tbl ∧ (yX6_init.cls ≠ "java/lang/invoke/MethodHandle" ∧ yX6_init.cls ≠ "java/lang/invoke/VarHandle" ∧ (parseMethodDescriptor yX6_init.desc).map (fun d => d.parameters.length) = some 0) ∧ 2 ≤ 21 ∧ plainName yX6_init.cls = true ∧ RX6 = yX6_init.cls := ⟨(by decide +kernel), (by decide +kernel), ⟨(by decide +kernel), (by decide +kernel), (by decide +kernel)⟩, (by decide +kernel), (by decide +kernel), rfl⟩
theorem mi_X6_init : mI mX6_init 0 := ⟨fx_X6_init, (by decide +kernel), rfl, rfl⟩
abbrev mX6_letters : Mt := (RX6, yX6_letters, cX6_letters, 3, (some .int), 3)
theorem fx_X6_letters : Cond.code yX6_letters cX6_letters 3 (some .int) ∈ lw_tbl ∧ Cond.initialized yX6_letters.cls ∈ lw_tbl ∧ (yX6_letters.cls ≠ "java/lang/invoke/MethodHandle" ∧ yX6_letters.cls ≠ "java/lang/invoke/VarHandle" ∧ (parseMethodDescriptor yX6_letters.desc).map (fun d => d.parameters.length) = some 1) ∧ 3 ≤ 21 ∧ plainName yX6_letters.cls = true ∧ RX6 = yX6_letters.cls := ⟨(by decide +kernel), (by decide +kernel), ⟨(by decide +kernel), (by decide +kernel), (by decide +kernel)⟩, (by decide +kernel), (by decide +kernel), rfl⟩
theorem mv_X6_letters : mV mX6_letters 1 6 := ⟨fx_X6_letters, (by decide +kernel : Cond.instanceMethod yX6_letters ∈ lw_tbl), (by decide +kernel : Cond.selects yX6_letters.cls yX6_letters yX6_letters ∈ lw_tbl), TX6, 7, rfl⟩
abbrev mX6_word : Mt := (RX6, yX6_word, cX6_word, 5, (some .int), 3)
theorem fx_X6_word : Cond.code yX6_word cX6_word 5 (some .int) ∈ lw_tbl ∧ Cond.initialized yX6_word.cls ∈ lw_tbl ∧ (yX6_word.cls ≠ "java/lang/invoke/MethodHandle" ∧ yX6_word.cls ≠ "java/lang/invoke/VarHandle" ∧ (parseMethodDescriptor yX6_word.desc).map (fun d => d.parameters.length) = some 3) ∧ 5 ≤ 21 ∧ plainName yX6_word.cls = true ∧ RX6 = yX6_word.cls := ⟨(by decide +kernel), (by decide +kernel), ⟨(by decide +kernel), (by decide +kernel), (by decide +kernel)⟩, (by decide +kernel), (by decide +kernel), rfl⟩
theorem mv_X6_word : mV mX6_word 3 6 := ⟨fx_X6_word, (by decide +kernel : Cond.instanceMethod yX6_word ∈ lw_tbl), (by decide +kernel : Cond.selects yX6_word.cls yX6_word yX6_word ∈ lw_tbl), TX6, 7, rfl⟩
abbrev mX6_at : Mt := (RX6, yX6_at, cX6_at, 4, (some .int), 2)
theorem fx_X6_at : Cond.code yX6_at cX6_at 4 (some .int) ∈ lw_tbl ∧ Cond.initialized yX6_at.cls ∈ lw_tbl ∧ (yX6_at.cls ≠ "java/lang/invoke/MethodHandle" ∧ yX6_at.cls ≠ "java/lang/invoke/VarHandle" ∧ (parseMethodDescriptor yX6_at.desc).map (fun d => d.parameters.length) = some 2) ∧ 4 ≤ 21 ∧ plainName yX6_at.cls = true ∧ RX6 = yX6_at.cls := ⟨(by decide +kernel), (by decide +kernel), ⟨(by decide +kernel), (by decide +kernel), (by decide +kernel)⟩, (by decide +kernel), (by decide +kernel), rfl⟩
theorem mv_X6_at : mV mX6_at 2 6 := ⟨fx_X6_at, (by decide +kernel : Cond.instanceMethod yX6_at ∈ lw_tbl), (by decide +kernel : Cond.selects yX6_at.cls yX6_at yX6_at ∈ lw_tbl), TX6, 7, rfl⟩
abbrev mX6_edit : Mt := (RX6, yX6_edit, cX6_edit, 7, (some .int), 3)
theorem fx_X6_edit : Cond.code yX6_edit cX6_edit 7 (some .int) ∈ lw_tbl ∧ Cond.initialized yX6_edit.cls ∈ lw_tbl ∧ (yX6_edit.cls ≠ "java/lang/invoke/MethodHandle" ∧ yX6_edit.cls ≠ "java/lang/invoke/VarHandle" ∧ (parseMethodDescriptor yX6_edit.desc).map (fun d => d.parameters.length) = some 5) ∧ 7 ≤ 21 ∧ plainName yX6_edit.cls = true ∧ RX6 = yX6_edit.cls := ⟨(by decide +kernel), (by decide +kernel), ⟨(by decide +kernel), (by decide +kernel), (by decide +kernel)⟩, (by decide +kernel), (by decide +kernel), rfl⟩
theorem mv_X6_edit : mV mX6_edit 5 6 := ⟨fx_X6_edit, (by decide +kernel : Cond.instanceMethod yX6_edit ∈ lw_tbl), (by decide +kernel : Cond.selects yX6_edit.cls yX6_edit yX6_edit ∈ lw_tbl), TX6, 7, rfl⟩
abbrev mX6_code : Mt := (RX6, yX6_code, cX6_code, 6, (some .int), 7)
theorem fx_X6_code : Cond.code yX6_code cX6_code 6 (some .int) ∈ lw_tbl ∧ Cond.initialized yX6_code.cls ∈ lw_tbl ∧ (yX6_code.cls ≠ "java/lang/invoke/MethodHandle" ∧ yX6_code.cls ≠ "java/lang/invoke/VarHandle" ∧ (parseMethodDescriptor yX6_code.desc).map (fun d => d.parameters.length) = some 4) ∧ 6 ≤ 21 ∧ plainName yX6_code.cls = true ∧ RX6 = yX6_code.cls := ⟨(by decide +kernel), (by decide +kernel), ⟨(by decide +kernel), (by decide +kernel), (by decide +kernel)⟩, (by decide +kernel), (by decide +kernel), rfl⟩
theorem mv_X6_code : mV mX6_code 4 6 := ⟨fx_X6_code, (by decide +kernel : Cond.instanceMethod yX6_code ∈ lw_tbl), (by decide +kernel : Cond.selects yX6_code.cls yX6_code yX6_code ∈ lw_tbl), TX6, 7, rfl⟩
abbrev mX6_sum : Mt := (RX6, yX6_sum, cX6_sum, 2, (some .int), 3)
theorem fx_X6_sum : Cond.code yX6_sum cX6_sum 2 (some .int) ∈ lw_tbl ∧ Cond.initialized yX6_sum.cls ∈ lw_tbl ∧ (yX6_sum.cls ≠ "java/lang/invoke/MethodHandle" ∧ yX6_sum.cls ≠ "java/lang/invoke/VarHandle" ∧ (parseMethodDescriptor yX6_sum.desc).map (fun d => d.parameters.length) = some 1) ∧ 2 ≤ 21 ∧ plainName yX6_sum.cls = true ∧ RX6 = yX6_sum.cls := ⟨(by decide +kernel), (by decide +kernel), ⟨(by decide +kernel), (by decide +kernel), (by decide +kernel)⟩, (by decide +kernel), (by decide +kernel), rfl⟩
theorem mv_X6_sum : mV mX6_sum 1 6 := ⟨fx_X6_sum, (by decide +kernel : Cond.instanceMethod yX6_sum ∈ lw_tbl), (by decide +kernel : Cond.selects yX6_sum.cls yX6_sum yX6_sum ∈ lw_tbl), TX6, 7, rfl⟩
abbrev mX6_isOf : Mt := (RX6, yX6_isOf, cX6_isOf, 2, (some .int), 4)
theorem fx_X6_isOf : Cond.code yX6_isOf cX6_isOf 2 (some .int) ∈ lw_tbl ∧ Cond.initialized yX6_isOf.cls ∈ lw_tbl ∧ (yX6_isOf.cls ≠ "java/lang/invoke/MethodHandle" ∧ yX6_isOf.cls ≠ "java/lang/invoke/VarHandle" ∧ (parseMethodDescriptor yX6_isOf.desc).map (fun d => d.parameters.length) = some 1) ∧ 2 ≤ 21 ∧ plainName yX6_isOf.cls = true ∧ RX6 = yX6_isOf.cls := ⟨(by decide +kernel), (by decide +kernel), ⟨(by decide +kernel), (by decide +kernel), (by decide +kernel)⟩, (by decide +kernel), (by decide +kernel), rfl⟩
theorem mv_X6_isOf : mV mX6_isOf 1 6 := ⟨fx_X6_isOf, (by decide +kernel : Cond.instanceMethod yX6_isOf ∈ lw_tbl), (by decide +kernel : Cond.selects yX6_isOf.cls yX6_isOf yX6_isOf ∈ lw_tbl), TX6, 7, rfl⟩
abbrev mX6_listed : Mt := (RX6, yX6_listed, cX6_listed, 3, (some .int), 5)
theorem fx_X6_listed : Cond.code yX6_listed cX6_listed 3 (some .int) ∈ lw_tbl ∧ Cond.initialized yX6_listed.cls ∈ lw_tbl ∧ (yX6_listed.cls ≠ "java/lang/invoke/MethodHandle" ∧ yX6_listed.cls ≠ "java/lang/invoke/VarHandle" ∧ (parseMethodDescriptor yX6_listed.desc).map (fun d => d.parameters.length) = some 2) ∧ 3 ≤ 21 ∧ plainName yX6_listed.cls = true ∧ RX6 = yX6_listed.cls := ⟨(by decide +kernel), (by decide +kernel), ⟨(by decide +kernel), (by decide +kernel), (by decide +kernel)⟩, (by decide +kernel), (by decide +kernel), rfl⟩
theorem mv_X6_listed : mV mX6_listed 2 6 := ⟨fx_X6_listed, (by decide +kernel : Cond.instanceMethod yX6_listed ∈ lw_tbl), (by decide +kernel : Cond.selects yX6_listed.cls yX6_listed yX6_listed ∈ lw_tbl), TX6, 7, rfl⟩
abbrev mX6_mend : Mt := (RX6, yX6_mend, cX6_mend, 3, (some .int), 7)
theorem fx_X6_mend : Cond.code yX6_mend cX6_mend 3 (some .int) ∈ lw_tbl ∧ Cond.initialized yX6_mend.cls ∈ lw_tbl ∧ (yX6_mend.cls ≠ "java/lang/invoke/MethodHandle" ∧ yX6_mend.cls ≠ "java/lang/invoke/VarHandle" ∧ (parseMethodDescriptor yX6_mend.desc).map (fun d => d.parameters.length) = some 2) ∧ 3 ≤ 21 ∧ plainName yX6_mend.cls = true ∧ RX6 = yX6_mend.cls := ⟨(by decide +kernel), (by decide +kernel), ⟨(by decide +kernel), (by decide +kernel), (by decide +kernel)⟩, (by decide +kernel), (by decide +kernel), rfl⟩
theorem mv_X6_mend : mV mX6_mend 2 6 := ⟨fx_X6_mend, (by decide +kernel : Cond.instanceMethod yX6_mend ∈ lw_tbl), (by decide +kernel : Cond.selects yX6_mend.cls yX6_mend yX6_mend ∈ lw_tbl), TX6, 7, rfl⟩
abbrev mX6_near : Mt := (RX6, yX6_near, cX6_near, 2, (some .int), 7)
theorem fx_X6_near : Cond.code yX6_near cX6_near 2 (some .int) ∈ lw_tbl ∧ Cond.initialized yX6_near.cls ∈ lw_tbl ∧ (yX6_near.cls ≠ "java/lang/invoke/MethodHandle" ∧ yX6_near.cls ≠ "java/lang/invoke/VarHandle" ∧ (parseMethodDescriptor yX6_near.desc).map (fun d => d.parameters.length) = some 1) ∧ 2 ≤ 21 ∧ plainName yX6_near.cls = true ∧ RX6 = yX6_near.cls := ⟨(by decide +kernel), (by decide +kernel), ⟨(by decide +kernel), (by decide +kernel), (by decide +kernel)⟩, (by decide +kernel), (by decide +kernel), rfl⟩
theorem mv_X6_near : mV mX6_near 1 6 := ⟨fx_X6_near, (by decide +kernel : Cond.instanceMethod yX6_near ∈ lw_tbl), (by decide +kernel : Cond.selects yX6_near.cls yX6_near yX6_near ∈ lw_tbl), TX6, 7, rfl⟩
abbrev mX6_liesIn : Mt := (RX6, yX6_liesIn, cX6_liesIn, 3, (some .long), 3)
theorem fx_X6_liesIn : Cond.code yX6_liesIn cX6_liesIn 3 (some .long) ∈ lw_tbl ∧ Cond.initialized yX6_liesIn.cls ∈ lw_tbl ∧ (yX6_liesIn.cls ≠ "java/lang/invoke/MethodHandle" ∧ yX6_liesIn.cls ≠ "java/lang/invoke/VarHandle" ∧ (parseMethodDescriptor yX6_liesIn.desc).map (fun d => d.parameters.length) = some 2) ∧ 3 ≤ 21 ∧ plainName yX6_liesIn.cls = true ∧ RX6 = yX6_liesIn.cls := ⟨(by decide +kernel), (by decide +kernel), ⟨(by decide +kernel), (by decide +kernel), (by decide +kernel)⟩, (by decide +kernel), (by decide +kernel), rfl⟩
theorem mv_X6_liesIn : mV mX6_liesIn 2 6 := ⟨fx_X6_liesIn, (by decide +kernel : Cond.instanceMethod yX6_liesIn ∈ lw_tbl), (by decide +kernel : Cond.selects yX6_liesIn.cls yX6_liesIn yX6_liesIn ∈ lw_tbl), TX6, 7, rfl⟩
abbrev mX6_common : Mt := (RX6, yX6_common, cX6_common, 5, (some .int), 5)
theorem fx_X6_common : Cond.code yX6_common cX6_common 5 (some .int) ∈ lw_tbl ∧ Cond.initialized yX6_common.cls ∈ lw_tbl ∧ (yX6_common.cls ≠ "java/lang/invoke/MethodHandle" ∧ yX6_common.cls ≠ "java/lang/invoke/VarHandle" ∧ (parseMethodDescriptor yX6_common.desc).map (fun d => d.parameters.length) = some 3) ∧ 5 ≤ 21 ∧ plainName yX6_common.cls = true ∧ RX6 = yX6_common.cls := ⟨(by decide +kernel), (by decide +kernel), ⟨(by decide +kernel), (by decide +kernel), (by decide +kernel)⟩, (by decide +kernel), (by decide +kernel), rfl⟩
theorem mv_X6_common : mV mX6_common 3 6 := ⟨fx_X6_common, (by decide +kernel : Cond.instanceMethod yX6_common ∈ lw_tbl), (by decide +kernel : Cond.selects yX6_common.cls yX6_common yX6_common ∈ lw_tbl), TX6, 7, rfl⟩
abbrev mX6_commons : Mt := (RX6, yX6_commons, cX6_commons, 3, (some .long), 5)
theorem fx_X6_commons : Cond.code yX6_commons cX6_commons 3 (some .long) ∈ lw_tbl ∧ Cond.initialized yX6_commons.cls ∈ lw_tbl ∧ (yX6_commons.cls ≠ "java/lang/invoke/MethodHandle" ∧ yX6_commons.cls ≠ "java/lang/invoke/VarHandle" ∧ (parseMethodDescriptor yX6_commons.desc).map (fun d => d.parameters.length) = some 2) ∧ 3 ≤ 21 ∧ plainName yX6_commons.cls = true ∧ RX6 = yX6_commons.cls := ⟨(by decide +kernel), (by decide +kernel), ⟨(by decide +kernel), (by decide +kernel), (by decide +kernel)⟩, (by decide +kernel), (by decide +kernel), rfl⟩
theorem mv_X6_commons : mV mX6_commons 2 6 := ⟨fx_X6_commons, (by decide +kernel : Cond.instanceMethod yX6_commons ∈ lw_tbl), (by decide +kernel : Cond.selects yX6_commons.cls yX6_commons yX6_commons ∈ lw_tbl), TX6, 7, rfl⟩
abbrev mX6_between : Mt := (RX6, yX6_between, cX6_between, 4, (some .int), 4)
theorem fx_X6_between : Cond.code yX6_between cX6_between 4 (some .int) ∈ lw_tbl ∧ Cond.initialized yX6_between.cls ∈ lw_tbl ∧ (yX6_between.cls ≠ "java/lang/invoke/MethodHandle" ∧ yX6_between.cls ≠ "java/lang/invoke/VarHandle" ∧ (parseMethodDescriptor yX6_between.desc).map (fun d => d.parameters.length) = some 3) ∧ 4 ≤ 21 ∧ plainName yX6_between.cls = true ∧ RX6 = yX6_between.cls := ⟨(by decide +kernel), (by decide +kernel), ⟨(by decide +kernel), (by decide +kernel), (by decide +kernel)⟩, (by decide +kernel), (by decide +kernel), rfl⟩
theorem mv_X6_between : mV mX6_between 3 6 := ⟨fx_X6_between, (by decide +kernel : Cond.instanceMethod yX6_between ∈ lw_tbl), (by decide +kernel : Cond.selects yX6_between.cls yX6_between yX6_between ∈ lw_tbl), TX6, 7, rfl⟩
abbrev mX6_by : Mt := (RX6, yX6_by, cX6_by, 4, (some .long), 5)
theorem fx_X6_by : Cond.code yX6_by cX6_by 4 (some .long) ∈ lw_tbl ∧ Cond.initialized yX6_by.cls ∈ lw_tbl ∧ (yX6_by.cls ≠ "java/lang/invoke/MethodHandle" ∧ yX6_by.cls ≠ "java/lang/invoke/VarHandle" ∧ (parseMethodDescriptor yX6_by.desc).map (fun d => d.parameters.length) = some 3) ∧ 4 ≤ 21 ∧ plainName yX6_by.cls = true ∧ RX6 = yX6_by.cls := ⟨(by decide +kernel), (by decide +kernel), ⟨(by decide +kernel), (by decide +kernel), (by decide +kernel)⟩, (by decide +kernel), (by decide +kernel), rfl⟩
theorem mv_X6_by : mV mX6_by 3 6 := ⟨fx_X6_by, (by decide +kernel : Cond.instanceMethod yX6_by ∈ lw_tbl), (by decide +kernel : Cond.selects yX6_by.cls yX6_by yX6_by ∈ lw_tbl), TX6, 7, rfl⟩
abbrev mX6_trace : Mt := (RX6, yX6_trace, cX6_trace, 2, (some .int), 4)
theorem fx_X6_trace : Cond.code yX6_trace cX6_trace 2 (some .int) ∈ lw_tbl ∧ Cond.initialized yX6_trace.cls ∈ lw_tbl ∧ (yX6_trace.cls ≠ "java/lang/invoke/MethodHandle" ∧ yX6_trace.cls ≠ "java/lang/invoke/VarHandle" ∧ (parseMethodDescriptor yX6_trace.desc).map (fun d => d.parameters.length) = some 1) ∧ 2 ≤ 21 ∧ plainName yX6_trace.cls = true ∧ RX6 = yX6_trace.cls := ⟨(by decide +kernel), (by decide +kernel), ⟨(by decide +kernel), (by decide +kernel), (by decide +kernel)⟩, (by decide +kernel), (by decide +kernel), rfl⟩
theorem mv_X6_trace : mV mX6_trace 1 6 := ⟨fx_X6_trace, (by decide +kernel : Cond.instanceMethod yX6_trace ∈ lw_tbl), (by decide +kernel : Cond.selects yX6_trace.cls yX6_trace yX6_trace ∈ lw_tbl), TX6, 7, rfl⟩
abbrev mX6_noTraces : Mt := (RX6, yX6_noTraces, cX6_noTraces, 2, (some .int), 2)
theorem fx_X6_noTraces : Cond.code yX6_noTraces cX6_noTraces 2 (some .int) ∈ lw_tbl ∧ Cond.initialized yX6_noTraces.cls ∈ lw_tbl ∧ (yX6_noTraces.cls ≠ "java/lang/invoke/MethodHandle" ∧ yX6_noTraces.cls ≠ "java/lang/invoke/VarHandle" ∧ (parseMethodDescriptor yX6_noTraces.desc).map (fun d => d.parameters.length) = some 0) ∧ 2 ≤ 21 ∧ plainName yX6_noTraces.cls = true ∧ RX6 = yX6_noTraces.cls := ⟨(by decide +kernel), (by decide +kernel), ⟨(by decide +kernel), (by decide +kernel), (by decide +kernel)⟩, (by decide +kernel), (by decide +kernel), rfl⟩
theorem mv_X6_noTraces : mV mX6_noTraces 0 6 := ⟨fx_X6_noTraces, (by decide +kernel : Cond.instanceMethod yX6_noTraces ∈ lw_tbl), (by decide +kernel : Cond.selects yX6_noTraces.cls yX6_noTraces yX6_noTraces ∈ lw_tbl), TX6, 7, rfl⟩
abbrev mX6_sources : Mt := (RX6, yX6_sources, cX6_sources, 2, (some .int), 19)
theorem fx_X6_sources : Cond.code yX6_sources cX6_sources 2 (some .int) ∈ lw_tbl ∧ Cond.initialized yX6_sources.cls ∈ lw_tbl ∧ (yX6_sources.cls ≠ "java/lang/invoke/MethodHandle" ∧ yX6_sources.cls ≠ "java/lang/invoke/VarHandle" ∧ (parseMethodDescriptor yX6_sources.desc).map (fun d => d.parameters.length) = some 1) ∧ 2 ≤ 21 ∧ plainName yX6_sources.cls = true ∧ RX6 = yX6_sources.cls := ⟨(by decide +kernel), (by decide +kernel), ⟨(by decide +kernel), (by decide +kernel), (by decide +kernel)⟩, (by decide +kernel), (by decide +kernel), rfl⟩
theorem mv_X6_sources : mV mX6_sources 1 6 := ⟨fx_X6_sources, (by decide +kernel : Cond.instanceMethod yX6_sources ∈ lw_tbl), (by decide +kernel : Cond.selects yX6_sources.cls yX6_sources yX6_sources ∈ lw_tbl), TX6, 7, rfl⟩
abbrev mX6_best : Mt := (RX6, yX6_best, cX6_best, 3, (some .int), 19)
theorem fx_X6_best : Cond.code yX6_best cX6_best 3 (some .int) ∈ lw_tbl ∧ Cond.initialized yX6_best.cls ∈ lw_tbl ∧ (yX6_best.cls ≠ "java/lang/invoke/MethodHandle" ∧ yX6_best.cls ≠ "java/lang/invoke/VarHandle" ∧ (parseMethodDescriptor yX6_best.desc).map (fun d => d.parameters.length) = some 2) ∧ 3 ≤ 21 ∧ plainName yX6_best.cls = true ∧ RX6 = yX6_best.cls := ⟨(by decide +kernel), (by decide +kernel), ⟨(by decide +kernel), (by decide +kernel), (by decide +kernel)⟩, (by decide +kernel), (by decide +kernel), rfl⟩
theorem mv_X6_best : mV mX6_best 2 6 := ⟨fx_X6_best, (by decide +kernel : Cond.instanceMethod yX6_best ∈ lw_tbl), (by decide +kernel : Cond.selects yX6_best.cls yX6_best yX6_best ∈ lw_tbl), TX6, 7, rfl⟩
abbrev mX6_line : Mt := (RX6, yX6_line, cX6_line, 4, (some .int), 2)
theorem fx_X6_line : Cond.code yX6_line cX6_line 4 (some .int) ∈ lw_tbl ∧ Cond.initialized yX6_line.cls ∈ lw_tbl ∧ (yX6_line.cls ≠ "java/lang/invoke/MethodHandle" ∧ yX6_line.cls ≠ "java/lang/invoke/VarHandle" ∧ (parseMethodDescriptor yX6_line.desc).map (fun d => d.parameters.length) = some 3) ∧ 4 ≤ 21 ∧ plainName yX6_line.cls = true ∧ RX6 = yX6_line.cls := ⟨(by decide +kernel), (by decide +kernel), ⟨(by decide +kernel), (by decide +kernel), (by decide +kernel)⟩, (by decide +kernel), (by decide +kernel), rfl⟩
theorem mv_X6_line : mV mX6_line 3 6 := ⟨fx_X6_line, (by decide +kernel : Cond.instanceMethod yX6_line ∈ lw_tbl), (by decide +kernel : Cond.selects yX6_line.cls yX6_line yX6_line ∈ lw_tbl), TX6, 7, rfl⟩
abbrev mX6_seed : Mt := (RX6, yX6_seed, cX6_seed, 3, (some .int), 1)
theorem fx_X6_seed : Cond.code yX6_seed cX6_seed 3 (some .int) ∈ lw_tbl ∧ Cond.initialized yX6_seed.cls ∈ lw_tbl ∧ (yX6_seed.cls ≠ "java/lang/invoke/MethodHandle" ∧ yX6_seed.cls ≠ "java/lang/invoke/VarHandle" ∧ (parseMethodDescriptor yX6_seed.desc).map (fun d => d.parameters.length) = some 1) ∧ 3 ≤ 21 ∧ plainName yX6_seed.cls = true ∧ RX6 = yX6_seed.cls := ⟨(by decide +kernel), (by decide +kernel), ⟨(by decide +kernel), (by decide +kernel), (by decide +kernel)⟩, (by decide +kernel), (by decide +kernel), rfl⟩
theorem mv_X6_seed : mV mX6_seed 1 6 := ⟨fx_X6_seed, (by decide +kernel : Cond.instanceMethod yX6_seed ∈ lw_tbl), (by decide +kernel : Cond.selects yX6_seed.cls yX6_seed yX6_seed ∈ lw_tbl), TX6, 7, rfl⟩
abbrev mX6_send : Mt := (RX6, yX6_send, cX6_send, 3, (some .int), 7)
theorem fx_X6_send : Cond.code yX6_send cX6_send 3 (some .int) ∈ lw_tbl ∧ Cond.initialized yX6_send.cls ∈ lw_tbl ∧ (yX6_send.cls ≠ "java/lang/invoke/MethodHandle" ∧ yX6_send.cls ≠ "java/lang/invoke/VarHandle" ∧ (parseMethodDescriptor yX6_send.desc).map (fun d => d.parameters.length) = some 2) ∧ 3 ≤ 21 ∧ plainName yX6_send.cls = true ∧ RX6 = yX6_send.cls := ⟨(by decide +kernel), (by decide +kernel), ⟨(by decide +kernel), (by decide +kernel), (by decide +kernel)⟩, (by decide +kernel), (by decide +kernel), rfl⟩
theorem mv_X6_send : mV mX6_send 2 6 := ⟨fx_X6_send, (by decide +kernel : Cond.instanceMethod yX6_send ∈ lw_tbl), (by decide +kernel : Cond.selects yX6_send.cls yX6_send yX6_send ∈ lw_tbl), TX6, 7, rfl⟩
abbrev mX6_count : Mt := (RX6, yX6_count, cX6_count, 2, (some .int), 2)
theorem fx_X6_count : Cond.code yX6_count cX6_count 2 (some .int) ∈ lw_tbl ∧ Cond.initialized yX6_count.cls ∈ lw_tbl ∧ (yX6_count.cls ≠ "java/lang/invoke/MethodHandle" ∧ yX6_count.cls ≠ "java/lang/invoke/VarHandle" ∧ (parseMethodDescriptor yX6_count.desc).map (fun d => d.parameters.length) = some 1) ∧ 2 ≤ 21 ∧ plainName yX6_count.cls = true ∧ RX6 = yX6_count.cls := ⟨(by decide +kernel), (by decide +kernel), ⟨(by decide +kernel), (by decide +kernel), (by decide +kernel)⟩, (by decide +kernel), (by decide +kernel), rfl⟩
theorem mv_X6_count : mV mX6_count 1 6 := ⟨fx_X6_count, (by decide +kernel : Cond.instanceMethod yX6_count ∈ lw_tbl), (by decide +kernel : Cond.selects yX6_count.cls yX6_count yX6_count ∈ lw_tbl), TX6, 7, rfl⟩
abbrev mX6_lettersOfAll : Mt := (RX6, yX6_lettersOfAll, cX6_lettersOfAll, 3, (some .int), 1)
theorem fx_X6_lettersOfAll : Cond.code yX6_lettersOfAll cX6_lettersOfAll 3 (some .int) ∈ lw_tbl ∧ Cond.initialized yX6_lettersOfAll.cls ∈ lw_tbl ∧ (yX6_lettersOfAll.cls ≠ "java/lang/invoke/MethodHandle" ∧ yX6_lettersOfAll.cls ≠ "java/lang/invoke/VarHandle" ∧ (parseMethodDescriptor yX6_lettersOfAll.desc).map (fun d => d.parameters.length) = some 0) ∧ 3 ≤ 21 ∧ plainName yX6_lettersOfAll.cls = true ∧ RX6 = yX6_lettersOfAll.cls := ⟨(by decide +kernel), (by decide +kernel), ⟨(by decide +kernel), (by decide +kernel), (by decide +kernel)⟩, (by decide +kernel), (by decide +kernel), rfl⟩
theorem mv_X6_lettersOfAll : mV mX6_lettersOfAll 0 6 := ⟨fx_X6_lettersOfAll, (by decide +kernel : Cond.instanceMethod yX6_lettersOfAll ∈ lw_tbl), (by decide +kernel : Cond.selects yX6_lettersOfAll.cls yX6_lettersOfAll yX6_lettersOfAll ∈ lw_tbl), TX6, 7, rfl⟩
abbrev mX6_isLetter : Mt := (RX6, yX6_isLetter, cX6_isLetter, 2, (some .boolean), 1)
theorem fx_X6_isLetter : Cond.code yX6_isLetter cX6_isLetter 2 (some .boolean) ∈ lw_tbl ∧ Cond.initialized yX6_isLetter.cls ∈ lw_tbl ∧ (yX6_isLetter.cls ≠ "java/lang/invoke/MethodHandle" ∧ yX6_isLetter.cls ≠ "java/lang/invoke/VarHandle" ∧ (parseMethodDescriptor yX6_isLetter.desc).map (fun d => d.parameters.length) = some 1) ∧ 2 ≤ 21 ∧ plainName yX6_isLetter.cls = true ∧ RX6 = yX6_isLetter.cls := ⟨(by decide +kernel), (by decide +kernel), ⟨(by decide +kernel), (by decide +kernel), (by decide +kernel)⟩, (by decide +kernel), (by decide +kernel), rfl⟩
theorem mv_X6_isLetter : mV mX6_isLetter 1 6 := ⟨fx_X6_isLetter, (by decide +kernel : Cond.instanceMethod yX6_isLetter ∈ lw_tbl), (by decide +kernel : Cond.selects yX6_isLetter.cls yX6_isLetter yX6_isLetter ∈ lw_tbl), TX6, 7, rfl⟩
abbrev mX6_isEdit : Mt := (RX6, yX6_isEdit, cX6_isEdit, 5, (some .boolean), 2)
theorem fx_X6_isEdit : Cond.code yX6_isEdit cX6_isEdit 5 (some .boolean) ∈ lw_tbl ∧ Cond.initialized yX6_isEdit.cls ∈ lw_tbl ∧ (yX6_isEdit.cls ≠ "java/lang/invoke/MethodHandle" ∧ yX6_isEdit.cls ≠ "java/lang/invoke/VarHandle" ∧ (parseMethodDescriptor yX6_isEdit.desc).map (fun d => d.parameters.length) = some 4) ∧ 5 ≤ 21 ∧ plainName yX6_isEdit.cls = true ∧ RX6 = yX6_isEdit.cls := ⟨(by decide +kernel), (by decide +kernel), ⟨(by decide +kernel), (by decide +kernel), (by decide +kernel)⟩, (by decide +kernel), (by decide +kernel), rfl⟩
theorem mv_X6_isEdit : mV mX6_isEdit 4 6 := ⟨fx_X6_isEdit, (by decide +kernel : Cond.instanceMethod yX6_isEdit ∈ lw_tbl), (by decide +kernel : Cond.selects yX6_isEdit.cls yX6_isEdit yX6_isEdit ∈ lw_tbl), TX6, 7, rfl⟩
abbrev mX6_isRow : Mt := (RX6, yX6_isRow, cX6_isRow, 5, (some .boolean), 2)
theorem fx_X6_isRow : Cond.code yX6_isRow cX6_isRow 5 (some .boolean) ∈ lw_tbl ∧ Cond.initialized yX6_isRow.cls ∈ lw_tbl ∧ (yX6_isRow.cls ≠ "java/lang/invoke/MethodHandle" ∧ yX6_isRow.cls ≠ "java/lang/invoke/VarHandle" ∧ (parseMethodDescriptor yX6_isRow.desc).map (fun d => d.parameters.length) = some 2) ∧ 5 ≤ 21 ∧ plainName yX6_isRow.cls = true ∧ RX6 = yX6_isRow.cls := ⟨(by decide +kernel), (by decide +kernel), ⟨(by decide +kernel), (by decide +kernel), (by decide +kernel)⟩, (by decide +kernel), (by decide +kernel), rfl⟩
theorem mv_X6_isRow : mV mX6_isRow 2 6 := ⟨fx_X6_isRow, (by decide +kernel : Cond.instanceMethod yX6_isRow ∈ lw_tbl), (by decide +kernel : Cond.selects yX6_isRow.cls yX6_isRow yX6_isRow ∈ lw_tbl), TX6, 7, rfl⟩
abbrev mX6_isSourceLength : Mt := (RX6, yX6_isSourceLength, cX6_isSourceLength, 4, (some .boolean), 1)
theorem fx_X6_isSourceLength : Cond.code yX6_isSourceLength cX6_isSourceLength 4 (some .boolean) ∈ lw_tbl ∧ Cond.initialized yX6_isSourceLength.cls ∈ lw_tbl ∧ (yX6_isSourceLength.cls ≠ "java/lang/invoke/MethodHandle" ∧ yX6_isSourceLength.cls ≠ "java/lang/invoke/VarHandle" ∧ (parseMethodDescriptor yX6_isSourceLength.desc).map (fun d => d.parameters.length) = some 1) ∧ 4 ≤ 21 ∧ plainName yX6_isSourceLength.cls = true ∧ RX6 = yX6_isSourceLength.cls := ⟨(by decide +kernel), (by decide +kernel), ⟨(by decide +kernel), (by decide +kernel), (by decide +kernel)⟩, (by decide +kernel), (by decide +kernel), rfl⟩
theorem mv_X6_isSourceLength : mV mX6_isSourceLength 1 6 := ⟨fx_X6_isSourceLength, (by decide +kernel : Cond.instanceMethod yX6_isSourceLength ∈ lw_tbl), (by decide +kernel : Cond.selects yX6_isSourceLength.cls yX6_isSourceLength yX6_isSourceLength ∈ lw_tbl), TX6, 7, rfl⟩
abbrev mX6_isRegister : Mt := (RX6, yX6_isRegister, cX6_isRegister, 1, (some .boolean), 1)
theorem fx_X6_isRegister : Cond.code yX6_isRegister cX6_isRegister 1 (some .boolean) ∈ lw_tbl ∧ Cond.initialized yX6_isRegister.cls ∈ lw_tbl ∧ (yX6_isRegister.cls ≠ "java/lang/invoke/MethodHandle" ∧ yX6_isRegister.cls ≠ "java/lang/invoke/VarHandle" ∧ (parseMethodDescriptor yX6_isRegister.desc).map (fun d => d.parameters.length) = some 1) ∧ 1 ≤ 21 ∧ plainName yX6_isRegister.cls = true ∧ RX6 = yX6_isRegister.cls := ⟨(by decide +kernel), (by decide +kernel), ⟨(by decide +kernel), (by decide +kernel), (by decide +kernel)⟩, (by decide +kernel), (by decide +kernel), rfl⟩
theorem ms_X6_isRegister : mS mX6_isRegister 1 := ⟨fx_X6_isRegister, (by decide +kernel)⟩
abbrev mX6_isEither : Mt := (RX6, yX6_isEither, cX6_isEither, 1, (some .boolean), 1)
theorem fx_X6_isEither : Cond.code yX6_isEither cX6_isEither 1 (some .boolean) ∈ lw_tbl ∧ Cond.initialized yX6_isEither.cls ∈ lw_tbl ∧ (yX6_isEither.cls ≠ "java/lang/invoke/MethodHandle" ∧ yX6_isEither.cls ≠ "java/lang/invoke/VarHandle" ∧ (parseMethodDescriptor yX6_isEither.desc).map (fun d => d.parameters.length) = some 1) ∧ 1 ≤ 21 ∧ plainName yX6_isEither.cls = true ∧ RX6 = yX6_isEither.cls := ⟨(by decide +kernel), (by decide +kernel), ⟨(by decide +kernel), (by decide +kernel), (by decide +kernel)⟩, (by decide +kernel), (by decide +kernel), rfl⟩
theorem ms_X6_isEither : mS mX6_isEither 1 := ⟨fx_X6_isEither, (by decide +kernel)⟩
abbrev mX6_isChance : Mt := (RX6, yX6_isChance, cX6_isChance, 1, (some .boolean), 1)
theorem fx_X6_isChance : Cond.code yX6_isChance cX6_isChance 1 (some .boolean) ∈ lw_tbl ∧ Cond.initialized yX6_isChance.cls ∈ lw_tbl ∧ (yX6_isChance.cls ≠ "java/lang/invoke/MethodHandle" ∧ yX6_isChance.cls ≠ "java/lang/invoke/VarHandle" ∧ (parseMethodDescriptor yX6_isChance.desc).map (fun d => d.parameters.length) = some 1) ∧ 1 ≤ 21 ∧ plainName yX6_isChance.cls = true ∧ RX6 = yX6_isChance.cls := ⟨(by decide +kernel), (by decide +kernel), ⟨(by decide +kernel), (by decide +kernel), (by decide +kernel)⟩, (by decide +kernel), (by decide +kernel), rfl⟩
theorem ms_X6_isChance : mS mX6_isChance 1 := ⟨fx_X6_isChance, (by decide +kernel)⟩
abbrev mX7_init : Mt := (RX7, yX7_init, cX7_init, 1, none, 1)
theorem fx_X7_init : Cond.code yX7_init cX7_init 1 none ∈ lw_tbl ∧ Cond.initialized yX7_init.cls ∈ lw_tbl ∧ (yX7_init.cls ≠ "java/lang/invoke/MethodHandle" ∧ yX7_init.cls ≠ "java/lang/invoke/VarHandle" ∧ (parseMethodDescriptor yX7_init.desc).map (fun d => d.parameters.length) = some 0) ∧ 1 ≤ 21 ∧ plainName yX7_init.cls = true ∧ RX7 = yX7_init.cls := ⟨(by decide +kernel), (by decide +kernel), ⟨(by decide +kernel), (by decide +kernel), (by decide +kernel)⟩, (by decide +kernel), (by decide +kernel), rfl⟩
theorem mi_X7_init : mI mX7_init 0 := ⟨fx_X7_init, (by decide +kernel), rfl, rfl⟩
abbrev mX7_in : Mt := (RX7, yX7_in, cX7_in, 6, (some .boolean), 1)
theorem fx_X7_in : Cond.code yX7_in cX7_in 6 (some .boolean) ∈ lw_tbl ∧ Cond.initialized yX7_in.cls ∈ lw_tbl ∧ (yX7_in.cls ≠ "java/lang/invoke/MethodHandle" ∧ yX7_in.cls ≠ "java/lang/invoke/VarHandle" ∧ (parseMethodDescriptor yX7_in.desc).map (fun d => d.parameters.length) = some 3) ∧ 6 ≤ 21 ∧ plainName yX7_in.cls = true ∧ RX7 = yX7_in.cls := ⟨(by decide +kernel), (by decide +kernel), ⟨(by decide +kernel), (by decide +kernel), (by decide +kernel)⟩, (by decide +kernel), (by decide +kernel), rfl⟩
theorem ms_X7_in : mS mX7_in 3 := ⟨fx_X7_in, (by decide +kernel)⟩
abbrev mX7_isRegister : Mt := (RX7, yX7_isRegister, cX7_isRegister, 1, (some .boolean), 2)
theorem fx_X7_isRegister : Cond.code yX7_isRegister cX7_isRegister 1 (some .boolean) ∈ lw_tbl ∧ Cond.initialized yX7_isRegister.cls ∈ lw_tbl ∧ (yX7_isRegister.cls ≠ "java/lang/invoke/MethodHandle" ∧ yX7_isRegister.cls ≠ "java/lang/invoke/VarHandle" ∧ (parseMethodDescriptor yX7_isRegister.desc).map (fun d => d.parameters.length) = some 1) ∧ 1 ≤ 21 ∧ plainName yX7_isRegister.cls = true ∧ RX7 = yX7_isRegister.cls := ⟨(by decide +kernel), (by decide +kernel), ⟨(by decide +kernel), (by decide +kernel), (by decide +kernel)⟩, (by decide +kernel), (by decide +kernel), rfl⟩
theorem ms_X7_isRegister : mS mX7_isRegister 1 := ⟨fx_X7_isRegister, (by decide +kernel)⟩
abbrev mX7_letters : Mt := (RX7, yX7_letters, cX7_letters, 3, (some .int), 2)
theorem fx_X7_letters : Cond.code yX7_letters cX7_letters 3 (some .int) ∈ lw_tbl ∧ Cond.initialized yX7_letters.cls ∈ lw_tbl ∧ (yX7_letters.cls ≠ "java/lang/invoke/MethodHandle" ∧ yX7_letters.cls ≠ "java/lang/invoke/VarHandle" ∧ (parseMethodDescriptor yX7_letters.desc).map (fun d => d.parameters.length) = some 1) ∧ 3 ≤ 21 ∧ plainName yX7_letters.cls = true ∧ RX7 = yX7_letters.cls := ⟨(by decide +kernel), (by decide +kernel), ⟨(by decide +kernel), (by decide +kernel), (by decide +kernel)⟩, (by decide +kernel), (by decide +kernel), rfl⟩
theorem mv_X7_letters : mV mX7_letters 1 7 := ⟨fx_X7_letters, (by decide +kernel : Cond.instanceMethod yX7_letters ∈ lw_tbl), (by decide +kernel : Cond.selects yX7_letters.cls yX7_letters yX7_letters ∈ lw_tbl), TX7, 17, rfl⟩
abbrev mX7_puts : Mt := (RX7, yX7_puts, cX7_puts, 3, none, 1)
theorem fx_X7_puts : Cond.code yX7_puts cX7_puts 3 none ∈ lw_tbl ∧ Cond.initialized yX7_puts.cls ∈ lw_tbl ∧ (yX7_puts.cls ≠ "java/lang/invoke/MethodHandle" ∧ yX7_puts.cls ≠ "java/lang/invoke/VarHandle" ∧ (parseMethodDescriptor yX7_puts.desc).map (fun d => d.parameters.length) = some 2) ∧ 3 ≤ 21 ∧ plainName yX7_puts.cls = true ∧ RX7 = yX7_puts.cls := ⟨(by decide +kernel), (by decide +kernel), ⟨(by decide +kernel), (by decide +kernel), (by decide +kernel)⟩, (by decide +kernel), (by decide +kernel), rfl⟩
theorem mv_X7_puts : mV mX7_puts 2 7 := ⟨fx_X7_puts, (by decide +kernel : Cond.instanceMethod yX7_puts ∈ lw_tbl), (by decide +kernel : Cond.selects yX7_puts.cls yX7_puts yX7_puts ∈ lw_tbl), TX7, 17, rfl⟩
abbrev mX7_copies : Mt := (RX7, yX7_copies, cX7_copies, 4, none, 1)
theorem fx_X7_copies : Cond.code yX7_copies cX7_copies 4 none ∈ lw_tbl ∧ Cond.initialized yX7_copies.cls ∈ lw_tbl ∧ (yX7_copies.cls ≠ "java/lang/invoke/MethodHandle" ∧ yX7_copies.cls ≠ "java/lang/invoke/VarHandle" ∧ (parseMethodDescriptor yX7_copies.desc).map (fun d => d.parameters.length) = some 2) ∧ 4 ≤ 21 ∧ plainName yX7_copies.cls = true ∧ RX7 = yX7_copies.cls := ⟨(by decide +kernel), (by decide +kernel), ⟨(by decide +kernel), (by decide +kernel), (by decide +kernel)⟩, (by decide +kernel), (by decide +kernel), rfl⟩
theorem mv_X7_copies : mV mX7_copies 2 7 := ⟨fx_X7_copies, (by decide +kernel : Cond.instanceMethod yX7_copies ∈ lw_tbl), (by decide +kernel : Cond.selects yX7_copies.cls yX7_copies yX7_copies ∈ lw_tbl), TX7, 17, rfl⟩
abbrev mX7_word : Mt := (RX7, yX7_word, cX7_word, 6, (some .int), 3)
theorem fx_X7_word : Cond.code yX7_word cX7_word 6 (some .int) ∈ lw_tbl ∧ Cond.initialized yX7_word.cls ∈ lw_tbl ∧ (yX7_word.cls ≠ "java/lang/invoke/MethodHandle" ∧ yX7_word.cls ≠ "java/lang/invoke/VarHandle" ∧ (parseMethodDescriptor yX7_word.desc).map (fun d => d.parameters.length) = some 3) ∧ 6 ≤ 21 ∧ plainName yX7_word.cls = true ∧ RX7 = yX7_word.cls := ⟨(by decide +kernel), (by decide +kernel), ⟨(by decide +kernel), (by decide +kernel), (by decide +kernel)⟩, (by decide +kernel), (by decide +kernel), rfl⟩
theorem mv_X7_word : mV mX7_word 3 7 := ⟨fx_X7_word, (by decide +kernel : Cond.instanceMethod yX7_word ∈ lw_tbl), (by decide +kernel : Cond.selects yX7_word.cls yX7_word yX7_word ∈ lw_tbl), TX7, 17, rfl⟩
abbrev mX7_at : Mt := (RX7, yX7_at, cX7_at, 3, (some .int), 3)
theorem fx_X7_at : Cond.code yX7_at cX7_at 3 (some .int) ∈ lw_tbl ∧ Cond.initialized yX7_at.cls ∈ lw_tbl ∧ (yX7_at.cls ≠ "java/lang/invoke/MethodHandle" ∧ yX7_at.cls ≠ "java/lang/invoke/VarHandle" ∧ (parseMethodDescriptor yX7_at.desc).map (fun d => d.parameters.length) = some 2) ∧ 3 ≤ 21 ∧ plainName yX7_at.cls = true ∧ RX7 = yX7_at.cls := ⟨(by decide +kernel), (by decide +kernel), ⟨(by decide +kernel), (by decide +kernel), (by decide +kernel)⟩, (by decide +kernel), (by decide +kernel), rfl⟩
theorem mv_X7_at : mV mX7_at 2 7 := ⟨fx_X7_at, (by decide +kernel : Cond.instanceMethod yX7_at ∈ lw_tbl), (by decide +kernel : Cond.selects yX7_at.cls yX7_at yX7_at ∈ lw_tbl), TX7, 17, rfl⟩
abbrev mX7_edits : Mt := (RX7, yX7_edits, cX7_edits, 7, none, 2)
theorem fx_X7_edits : Cond.code yX7_edits cX7_edits 7 none ∈ lw_tbl ∧ Cond.initialized yX7_edits.cls ∈ lw_tbl ∧ (yX7_edits.cls ≠ "java/lang/invoke/MethodHandle" ∧ yX7_edits.cls ≠ "java/lang/invoke/VarHandle" ∧ (parseMethodDescriptor yX7_edits.desc).map (fun d => d.parameters.length) = some 5) ∧ 7 ≤ 21 ∧ plainName yX7_edits.cls = true ∧ RX7 = yX7_edits.cls := ⟨(by decide +kernel), (by decide +kernel), ⟨(by decide +kernel), (by decide +kernel), (by decide +kernel)⟩, (by decide +kernel), (by decide +kernel), rfl⟩
theorem mv_X7_edits : mV mX7_edits 5 7 := ⟨fx_X7_edits, (by decide +kernel : Cond.instanceMethod yX7_edits ∈ lw_tbl), (by decide +kernel : Cond.selects yX7_edits.cls yX7_edits yX7_edits ∈ lw_tbl), TX7, 17, rfl⟩
abbrev mX7_edit : Mt := (RX7, yX7_edit, cX7_edit, 6, (some .int), 3)
theorem fx_X7_edit : Cond.code yX7_edit cX7_edit 6 (some .int) ∈ lw_tbl ∧ Cond.initialized yX7_edit.cls ∈ lw_tbl ∧ (yX7_edit.cls ≠ "java/lang/invoke/MethodHandle" ∧ yX7_edit.cls ≠ "java/lang/invoke/VarHandle" ∧ (parseMethodDescriptor yX7_edit.desc).map (fun d => d.parameters.length) = some 5) ∧ 6 ≤ 21 ∧ plainName yX7_edit.cls = true ∧ RX7 = yX7_edit.cls := ⟨(by decide +kernel), (by decide +kernel), ⟨(by decide +kernel), (by decide +kernel), (by decide +kernel)⟩, (by decide +kernel), (by decide +kernel), rfl⟩
theorem mv_X7_edit : mV mX7_edit 5 7 := ⟨fx_X7_edit, (by decide +kernel : Cond.instanceMethod yX7_edit ∈ lw_tbl), (by decide +kernel : Cond.selects yX7_edit.cls yX7_edit yX7_edit ∈ lw_tbl), TX7, 17, rfl⟩
abbrev mX7_sumOf : Mt := (RX7, yX7_sumOf, cX7_sumOf, 4, (some .int), 1)
theorem fx_X7_sumOf : Cond.code yX7_sumOf cX7_sumOf 4 (some .int) ∈ lw_tbl ∧ Cond.initialized yX7_sumOf.cls ∈ lw_tbl ∧ (yX7_sumOf.cls ≠ "java/lang/invoke/MethodHandle" ∧ yX7_sumOf.cls ≠ "java/lang/invoke/VarHandle" ∧ (parseMethodDescriptor yX7_sumOf.desc).map (fun d => d.parameters.length) = some 1) ∧ 4 ≤ 21 ∧ plainName yX7_sumOf.cls = true ∧ RX7 = yX7_sumOf.cls := ⟨(by decide +kernel), (by decide +kernel), ⟨(by decide +kernel), (by decide +kernel), (by decide +kernel)⟩, (by decide +kernel), (by decide +kernel), rfl⟩
theorem mv_X7_sumOf : mV mX7_sumOf 1 7 := ⟨fx_X7_sumOf, (by decide +kernel : Cond.instanceMethod yX7_sumOf ∈ lw_tbl), (by decide +kernel : Cond.selects yX7_sumOf.cls yX7_sumOf yX7_sumOf ∈ lw_tbl), TX7, 17, rfl⟩
abbrev mX7_lettersOf : Mt := (RX7, yX7_lettersOf, cX7_lettersOf, 4, (some .int), 1)
theorem fx_X7_lettersOf : Cond.code yX7_lettersOf cX7_lettersOf 4 (some .int) ∈ lw_tbl ∧ Cond.initialized yX7_lettersOf.cls ∈ lw_tbl ∧ (yX7_lettersOf.cls ≠ "java/lang/invoke/MethodHandle" ∧ yX7_lettersOf.cls ≠ "java/lang/invoke/VarHandle" ∧ (parseMethodDescriptor yX7_lettersOf.desc).map (fun d => d.parameters.length) = some 1) ∧ 4 ≤ 21 ∧ plainName yX7_lettersOf.cls = true ∧ RX7 = yX7_lettersOf.cls := ⟨(by decide +kernel), (by decide +kernel), ⟨(by decide +kernel), (by decide +kernel), (by decide +kernel)⟩, (by decide +kernel), (by decide +kernel), rfl⟩
theorem mv_X7_lettersOf : mV mX7_lettersOf 1 7 := ⟨fx_X7_lettersOf, (by decide +kernel : Cond.instanceMethod yX7_lettersOf ∈ lw_tbl), (by decide +kernel : Cond.selects yX7_lettersOf.cls yX7_lettersOf yX7_lettersOf ∈ lw_tbl), TX7, 17, rfl⟩
abbrev mX7_isCode : Mt := (RX7, yX7_isCode, cX7_isCode, 2, (some .boolean), 2)
theorem fx_X7_isCode : Cond.code yX7_isCode cX7_isCode 2 (some .boolean) ∈ lw_tbl ∧ Cond.initialized yX7_isCode.cls ∈ lw_tbl ∧ (yX7_isCode.cls ≠ "java/lang/invoke/MethodHandle" ∧ yX7_isCode.cls ≠ "java/lang/invoke/VarHandle" ∧ (parseMethodDescriptor yX7_isCode.desc).map (fun d => d.parameters.length) = some 1) ∧ 2 ≤ 21 ∧ plainName yX7_isCode.cls = true ∧ RX7 = yX7_isCode.cls := ⟨(by decide +kernel), (by decide +kernel), ⟨(by decide +kernel), (by decide +kernel), (by decide +kernel)⟩, (by decide +kernel), (by decide +kernel), rfl⟩
theorem mv_X7_isCode : mV mX7_isCode 1 7 := ⟨fx_X7_isCode, (by decide +kernel : Cond.instanceMethod yX7_isCode ∈ lw_tbl), (by decide +kernel : Cond.selects yX7_isCode.cls yX7_isCode yX7_isCode ∈ lw_tbl), TX7, 17, rfl⟩
abbrev mX7_state : Mt := (RX7, yX7_state, cX7_state, 4, (some .int), 1)
theorem fx_X7_state : Cond.code yX7_state cX7_state 4 (some .int) ∈ lw_tbl ∧ Cond.initialized yX7_state.cls ∈ lw_tbl ∧ (yX7_state.cls ≠ "java/lang/invoke/MethodHandle" ∧ yX7_state.cls ≠ "java/lang/invoke/VarHandle" ∧ (parseMethodDescriptor yX7_state.desc).map (fun d => d.parameters.length) = some 4) ∧ 4 ≤ 21 ∧ plainName yX7_state.cls = true ∧ RX7 = yX7_state.cls := ⟨(by decide +kernel), (by decide +kernel), ⟨(by decide +kernel), (by decide +kernel), (by decide +kernel)⟩, (by decide +kernel), (by decide +kernel), rfl⟩
theorem ms_X7_state : mS mX7_state 4 := ⟨fx_X7_state, (by decide +kernel)⟩
abbrev mX7_step : Mt := (RX7, yX7_step, cX7_step, 4, (some .int), 1)
theorem fx_X7_step : Cond.code yX7_step cX7_step 4 (some .int) ∈ lw_tbl ∧ Cond.initialized yX7_step.cls ∈ lw_tbl ∧ (yX7_step.cls ≠ "java/lang/invoke/MethodHandle" ∧ yX7_step.cls ≠ "java/lang/invoke/VarHandle" ∧ (parseMethodDescriptor yX7_step.desc).map (fun d => d.parameters.length) = some 3) ∧ 4 ≤ 21 ∧ plainName yX7_step.cls = true ∧ RX7 = yX7_step.cls := ⟨(by decide +kernel), (by decide +kernel), ⟨(by decide +kernel), (by decide +kernel), (by decide +kernel)⟩, (by decide +kernel), (by decide +kernel), rfl⟩
theorem mv_X7_step : mV mX7_step 3 7 := ⟨fx_X7_step, (by decide +kernel : Cond.instanceMethod yX7_step ∈ lw_tbl), (by decide +kernel : Cond.selects yX7_step.cls yX7_step yX7_step ∈ lw_tbl), TX7, 17, rfl⟩
abbrev mX7_counts : Mt := (RX7, yX7_counts, cX7_counts, 7, none, 2)
theorem fx_X7_counts : Cond.code yX7_counts cX7_counts 7 none ∈ lw_tbl ∧ Cond.initialized yX7_counts.cls ∈ lw_tbl ∧ (yX7_counts.cls ≠ "java/lang/invoke/MethodHandle" ∧ yX7_counts.cls ≠ "java/lang/invoke/VarHandle" ∧ (parseMethodDescriptor yX7_counts.desc).map (fun d => d.parameters.length) = some 0) ∧ 7 ≤ 21 ∧ plainName yX7_counts.cls = true ∧ RX7 = yX7_counts.cls := ⟨(by decide +kernel), (by decide +kernel), ⟨(by decide +kernel), (by decide +kernel), (by decide +kernel)⟩, (by decide +kernel), (by decide +kernel), rfl⟩
theorem mv_X7_counts : mV mX7_counts 0 7 := ⟨fx_X7_counts, (by decide +kernel : Cond.instanceMethod yX7_counts ∈ lw_tbl), (by decide +kernel : Cond.selects yX7_counts.cls yX7_counts yX7_counts ∈ lw_tbl), TX7, 17, rfl⟩
abbrev mX7_code : Mt := (RX7, yX7_code, cX7_code, 5, (some .int), 3)
theorem fx_X7_code : Cond.code yX7_code cX7_code 5 (some .int) ∈ lw_tbl ∧ Cond.initialized yX7_code.cls ∈ lw_tbl ∧ (yX7_code.cls ≠ "java/lang/invoke/MethodHandle" ∧ yX7_code.cls ≠ "java/lang/invoke/VarHandle" ∧ (parseMethodDescriptor yX7_code.desc).map (fun d => d.parameters.length) = some 4) ∧ 5 ≤ 21 ∧ plainName yX7_code.cls = true ∧ RX7 = yX7_code.cls := ⟨(by decide +kernel), (by decide +kernel), ⟨(by decide +kernel), (by decide +kernel), (by decide +kernel)⟩, (by decide +kernel), (by decide +kernel), rfl⟩
theorem mv_X7_code : mV mX7_code 4 7 := ⟨fx_X7_code, (by decide +kernel : Cond.instanceMethod yX7_code ∈ lw_tbl), (by decide +kernel : Cond.selects yX7_code.cls yX7_code yX7_code ∈ lw_tbl), TX7, 17, rfl⟩
abbrev mX7_codeSize : Mt := (RX7, yX7_codeSize, cX7_codeSize, 1, (some .int), 2)
theorem fx_X7_codeSize : Cond.code yX7_codeSize cX7_codeSize 1 (some .int) ∈ lw_tbl ∧ Cond.initialized yX7_codeSize.cls ∈ lw_tbl ∧ (yX7_codeSize.cls ≠ "java/lang/invoke/MethodHandle" ∧ yX7_codeSize.cls ≠ "java/lang/invoke/VarHandle" ∧ (parseMethodDescriptor yX7_codeSize.desc).map (fun d => d.parameters.length) = some 0) ∧ 1 ≤ 21 ∧ plainName yX7_codeSize.cls = true ∧ RX7 = yX7_codeSize.cls := ⟨(by decide +kernel), (by decide +kernel), ⟨(by decide +kernel), (by decide +kernel), (by decide +kernel)⟩, (by decide +kernel), (by decide +kernel), rfl⟩
theorem mv_X7_codeSize : mV mX7_codeSize 0 7 := ⟨fx_X7_codeSize, (by decide +kernel : Cond.instanceMethod yX7_codeSize ∈ lw_tbl), (by decide +kernel : Cond.selects yX7_codeSize.cls yX7_codeSize yX7_codeSize ∈ lw_tbl), TX7, 17, rfl⟩
abbrev mX7_sum : Mt := (RX7, yX7_sum, cX7_sum, 2, (some .int), 3)
theorem fx_X7_sum : Cond.code yX7_sum cX7_sum 2 (some .int) ∈ lw_tbl ∧ Cond.initialized yX7_sum.cls ∈ lw_tbl ∧ (yX7_sum.cls ≠ "java/lang/invoke/MethodHandle" ∧ yX7_sum.cls ≠ "java/lang/invoke/VarHandle" ∧ (parseMethodDescriptor yX7_sum.desc).map (fun d => d.parameters.length) = some 1) ∧ 2 ≤ 21 ∧ plainName yX7_sum.cls = true ∧ RX7 = yX7_sum.cls := ⟨(by decide +kernel), (by decide +kernel), ⟨(by decide +kernel), (by decide +kernel), (by decide +kernel)⟩, (by decide +kernel), (by decide +kernel), rfl⟩
theorem mv_X7_sum : mV mX7_sum 1 7 := ⟨fx_X7_sum, (by decide +kernel : Cond.instanceMethod yX7_sum ∈ lw_tbl), (by decide +kernel : Cond.selects yX7_sum.cls yX7_sum yX7_sum ∈ lw_tbl), TX7, 17, rfl⟩
abbrev mX7_isOf : Mt := (RX7, yX7_isOf, cX7_isOf, 2, (some .int), 3)
theorem fx_X7_isOf : Cond.code yX7_isOf cX7_isOf 2 (some .int) ∈ lw_tbl ∧ Cond.initialized yX7_isOf.cls ∈ lw_tbl ∧ (yX7_isOf.cls ≠ "java/lang/invoke/MethodHandle" ∧ yX7_isOf.cls ≠ "java/lang/invoke/VarHandle" ∧ (parseMethodDescriptor yX7_isOf.desc).map (fun d => d.parameters.length) = some 1) ∧ 2 ≤ 21 ∧ plainName yX7_isOf.cls = true ∧ RX7 = yX7_isOf.cls := ⟨(by decide +kernel), (by decide +kernel), ⟨(by decide +kernel), (by decide +kernel), (by decide +kernel)⟩, (by decide +kernel), (by decide +kernel), rfl⟩
theorem mv_X7_isOf : mV mX7_isOf 1 7 := ⟨fx_X7_isOf, (by decide +kernel : Cond.instanceMethod yX7_isOf ∈ lw_tbl), (by decide +kernel : Cond.selects yX7_isOf.cls yX7_isOf yX7_isOf ∈ lw_tbl), TX7, 17, rfl⟩
abbrev mX7_listed : Mt := (RX7, yX7_listed, cX7_listed, 10, (some .int), 3)
theorem fx_X7_listed : Cond.code yX7_listed cX7_listed 10 (some .int) ∈ lw_tbl ∧ Cond.initialized yX7_listed.cls ∈ lw_tbl ∧ (yX7_listed.cls ≠ "java/lang/invoke/MethodHandle" ∧ yX7_listed.cls ≠ "java/lang/invoke/VarHandle" ∧ (parseMethodDescriptor yX7_listed.desc).map (fun d => d.parameters.length) = some 2) ∧ 10 ≤ 21 ∧ plainName yX7_listed.cls = true ∧ RX7 = yX7_listed.cls := ⟨(by decide +kernel), (by decide +kernel), ⟨(by decide +kernel), (by decide +kernel), (by decide +kernel)⟩, (by decide +kernel), (by decide +kernel), rfl⟩
theorem mv_X7_listed : mV mX7_listed 2 7 := ⟨fx_X7_listed, (by decide +kernel : Cond.instanceMethod yX7_listed ∈ lw_tbl), (by decide +kernel : Cond.selects yX7_listed.cls yX7_listed yX7_listed ∈ lw_tbl), TX7, 17, rfl⟩
abbrev mX7_meets : Mt := (RX7, yX7_meets, cX7_meets, 4, none, 3)
theorem fx_X7_meets : Cond.code yX7_meets cX7_meets 4 none ∈ lw_tbl ∧ Cond.initialized yX7_meets.cls ∈ lw_tbl ∧ (yX7_meets.cls ≠ "java/lang/invoke/MethodHandle" ∧ yX7_meets.cls ≠ "java/lang/invoke/VarHandle" ∧ (parseMethodDescriptor yX7_meets.desc).map (fun d => d.parameters.length) = some 0) ∧ 4 ≤ 21 ∧ plainName yX7_meets.cls = true ∧ RX7 = yX7_meets.cls := ⟨(by decide +kernel), (by decide +kernel), ⟨(by decide +kernel), (by decide +kernel), (by decide +kernel)⟩, (by decide +kernel), (by decide +kernel), rfl⟩
theorem mv_X7_meets : mV mX7_meets 0 7 := ⟨fx_X7_meets, (by decide +kernel : Cond.instanceMethod yX7_meets ∈ lw_tbl), (by decide +kernel : Cond.selects yX7_meets.cls yX7_meets yX7_meets ∈ lw_tbl), TX7, 17, rfl⟩
abbrev mX7_looks : Mt := (RX7, yX7_looks, cX7_looks, 5, none, 4)
theorem fx_X7_looks : Cond.code yX7_looks cX7_looks 5 none ∈ lw_tbl ∧ Cond.initialized yX7_looks.cls ∈ lw_tbl ∧ (yX7_looks.cls ≠ "java/lang/invoke/MethodHandle" ∧ yX7_looks.cls ≠ "java/lang/invoke/VarHandle" ∧ (parseMethodDescriptor yX7_looks.desc).map (fun d => d.parameters.length) = some 1) ∧ 5 ≤ 21 ∧ plainName yX7_looks.cls = true ∧ RX7 = yX7_looks.cls := ⟨(by decide +kernel), (by decide +kernel), ⟨(by decide +kernel), (by decide +kernel), (by decide +kernel)⟩, (by decide +kernel), (by decide +kernel), rfl⟩
theorem mv_X7_looks : mV mX7_looks 1 7 := ⟨fx_X7_looks, (by decide +kernel : Cond.instanceMethod yX7_looks ∈ lw_tbl), (by decide +kernel : Cond.selects yX7_looks.cls yX7_looks yX7_looks ∈ lw_tbl), TX7, 17, rfl⟩
abbrev mX7_near : Mt := (RX7, yX7_near, cX7_near, 2, (some .int), 5)
theorem fx_X7_near : Cond.code yX7_near cX7_near 2 (some .int) ∈ lw_tbl ∧ Cond.initialized yX7_near.cls ∈ lw_tbl ∧ (yX7_near.cls ≠ "java/lang/invoke/MethodHandle" ∧ yX7_near.cls ≠ "java/lang/invoke/VarHandle" ∧ (parseMethodDescriptor yX7_near.desc).map (fun d => d.parameters.length) = some 1) ∧ 2 ≤ 21 ∧ plainName yX7_near.cls = true ∧ RX7 = yX7_near.cls := ⟨(by decide +kernel), (by decide +kernel), ⟨(by decide +kernel), (by decide +kernel), (by decide +kernel)⟩, (by decide +kernel), (by decide +kernel), rfl⟩
theorem mv_X7_near : mV mX7_near 1 7 := ⟨fx_X7_near, (by decide +kernel : Cond.instanceMethod yX7_near ∈ lw_tbl), (by decide +kernel : Cond.selects yX7_near.cls yX7_near yX7_near ∈ lw_tbl), TX7, 17, rfl⟩
abbrev mX7_mend : Mt := (RX7, yX7_mend, cX7_mend, 4, (some .int), 5)
theorem fx_X7_mend : Cond.code yX7_mend cX7_mend 4 (some .int) ∈ lw_tbl ∧ Cond.initialized yX7_mend.cls ∈ lw_tbl ∧ (yX7_mend.cls ≠ "java/lang/invoke/MethodHandle" ∧ yX7_mend.cls ≠ "java/lang/invoke/VarHandle" ∧ (parseMethodDescriptor yX7_mend.desc).map (fun d => d.parameters.length) = some 2) ∧ 4 ≤ 21 ∧ plainName yX7_mend.cls = true ∧ RX7 = yX7_mend.cls := ⟨(by decide +kernel), (by decide +kernel), ⟨(by decide +kernel), (by decide +kernel), (by decide +kernel)⟩, (by decide +kernel), (by decide +kernel), rfl⟩
theorem mv_X7_mend : mV mX7_mend 2 7 := ⟨fx_X7_mend, (by decide +kernel : Cond.instanceMethod yX7_mend ∈ lw_tbl), (by decide +kernel : Cond.selects yX7_mend.cls yX7_mend yX7_mend ∈ lw_tbl), TX7, 17, rfl⟩
abbrev mX7_lies : Mt := (RX7, yX7_lies, cX7_lies, 7, (some .long), 1)
theorem fx_X7_lies : Cond.code yX7_lies cX7_lies 7 (some .long) ∈ lw_tbl ∧ Cond.initialized yX7_lies.cls ∈ lw_tbl ∧ (yX7_lies.cls ≠ "java/lang/invoke/MethodHandle" ∧ yX7_lies.cls ≠ "java/lang/invoke/VarHandle" ∧ (parseMethodDescriptor yX7_lies.desc).map (fun d => d.parameters.length) = some 2) ∧ 7 ≤ 21 ∧ plainName yX7_lies.cls = true ∧ RX7 = yX7_lies.cls := ⟨(by decide +kernel), (by decide +kernel), ⟨(by decide +kernel), (by decide +kernel), (by decide +kernel)⟩, (by decide +kernel), (by decide +kernel), rfl⟩
theorem mv_X7_lies : mV mX7_lies 2 7 := ⟨fx_X7_lies, (by decide +kernel : Cond.instanceMethod yX7_lies ∈ lw_tbl), (by decide +kernel : Cond.selects yX7_lies.cls yX7_lies yX7_lies ∈ lw_tbl), TX7, 17, rfl⟩
abbrev mX7_liesIn : Mt := (RX7, yX7_liesIn, cX7_liesIn, 3, (some .long), 3)
theorem fx_X7_liesIn : Cond.code yX7_liesIn cX7_liesIn 3 (some .long) ∈ lw_tbl ∧ Cond.initialized yX7_liesIn.cls ∈ lw_tbl ∧ (yX7_liesIn.cls ≠ "java/lang/invoke/MethodHandle" ∧ yX7_liesIn.cls ≠ "java/lang/invoke/VarHandle" ∧ (parseMethodDescriptor yX7_liesIn.desc).map (fun d => d.parameters.length) = some 2) ∧ 3 ≤ 21 ∧ plainName yX7_liesIn.cls = true ∧ RX7 = yX7_liesIn.cls := ⟨(by decide +kernel), (by decide +kernel), ⟨(by decide +kernel), (by decide +kernel), (by decide +kernel)⟩, (by decide +kernel), (by decide +kernel), rfl⟩
theorem mv_X7_liesIn : mV mX7_liesIn 2 7 := ⟨fx_X7_liesIn, (by decide +kernel : Cond.instanceMethod yX7_liesIn ∈ lw_tbl), (by decide +kernel : Cond.selects yX7_liesIn.cls yX7_liesIn yX7_liesIn ∈ lw_tbl), TX7, 17, rfl⟩
abbrev mX7_longests : Mt := (RX7, yX7_longests, cX7_longests, 8, none, 1)
theorem fx_X7_longests : Cond.code yX7_longests cX7_longests 8 none ∈ lw_tbl ∧ Cond.initialized yX7_longests.cls ∈ lw_tbl ∧ (yX7_longests.cls ≠ "java/lang/invoke/MethodHandle" ∧ yX7_longests.cls ≠ "java/lang/invoke/VarHandle" ∧ (parseMethodDescriptor yX7_longests.desc).map (fun d => d.parameters.length) = some 2) ∧ 8 ≤ 21 ∧ plainName yX7_longests.cls = true ∧ RX7 = yX7_longests.cls := ⟨(by decide +kernel), (by decide +kernel), ⟨(by decide +kernel), (by decide +kernel), (by decide +kernel)⟩, (by decide +kernel), (by decide +kernel), rfl⟩
theorem mv_X7_longests : mV mX7_longests 2 7 := ⟨fx_X7_longests, (by decide +kernel : Cond.instanceMethod yX7_longests ∈ lw_tbl), (by decide +kernel : Cond.selects yX7_longests.cls yX7_longests yX7_longests ∈ lw_tbl), TX7, 17, rfl⟩
abbrev mX7_next : Mt := (RX7, yX7_next, cX7_next, 5, (some .int), 1)
theorem fx_X7_next : Cond.code yX7_next cX7_next 5 (some .int) ∈ lw_tbl ∧ Cond.initialized yX7_next.cls ∈ lw_tbl ∧ (yX7_next.cls ≠ "java/lang/invoke/MethodHandle" ∧ yX7_next.cls ≠ "java/lang/invoke/VarHandle" ∧ (parseMethodDescriptor yX7_next.desc).map (fun d => d.parameters.length) = some 3) ∧ 5 ≤ 21 ∧ plainName yX7_next.cls = true ∧ RX7 = yX7_next.cls := ⟨(by decide +kernel), (by decide +kernel), ⟨(by decide +kernel), (by decide +kernel), (by decide +kernel)⟩, (by decide +kernel), (by decide +kernel), rfl⟩
theorem mv_X7_next : mV mX7_next 3 7 := ⟨fx_X7_next, (by decide +kernel : Cond.instanceMethod yX7_next ∈ lw_tbl), (by decide +kernel : Cond.selects yX7_next.cls yX7_next yX7_next ∈ lw_tbl), TX7, 17, rfl⟩
abbrev mX7_common : Mt := (RX7, yX7_common, cX7_common, 9, (some .int), 3)
theorem fx_X7_common : Cond.code yX7_common cX7_common 9 (some .int) ∈ lw_tbl ∧ Cond.initialized yX7_common.cls ∈ lw_tbl ∧ (yX7_common.cls ≠ "java/lang/invoke/MethodHandle" ∧ yX7_common.cls ≠ "java/lang/invoke/VarHandle" ∧ (parseMethodDescriptor yX7_common.desc).map (fun d => d.parameters.length) = some 3) ∧ 9 ≤ 21 ∧ plainName yX7_common.cls = true ∧ RX7 = yX7_common.cls := ⟨(by decide +kernel), (by decide +kernel), ⟨(by decide +kernel), (by decide +kernel), (by decide +kernel)⟩, (by decide +kernel), (by decide +kernel), rfl⟩
theorem mv_X7_common : mV mX7_common 3 7 := ⟨fx_X7_common, (by decide +kernel : Cond.instanceMethod yX7_common ∈ lw_tbl), (by decide +kernel : Cond.selects yX7_common.cls yX7_common yX7_common ∈ lw_tbl), TX7, 17, rfl⟩
abbrev mX7_commons : Mt := (RX7, yX7_commons, cX7_commons, 11, (some .long), 3)
theorem fx_X7_commons : Cond.code yX7_commons cX7_commons 11 (some .long) ∈ lw_tbl ∧ Cond.initialized yX7_commons.cls ∈ lw_tbl ∧ (yX7_commons.cls ≠ "java/lang/invoke/MethodHandle" ∧ yX7_commons.cls ≠ "java/lang/invoke/VarHandle" ∧ (parseMethodDescriptor yX7_commons.desc).map (fun d => d.parameters.length) = some 2) ∧ 11 ≤ 21 ∧ plainName yX7_commons.cls = true ∧ RX7 = yX7_commons.cls := ⟨(by decide +kernel), (by decide +kernel), ⟨(by decide +kernel), (by decide +kernel), (by decide +kernel)⟩, (by decide +kernel), (by decide +kernel), rfl⟩
theorem mv_X7_commons : mV mX7_commons 2 7 := ⟨fx_X7_commons, (by decide +kernel : Cond.instanceMethod yX7_commons ∈ lw_tbl), (by decide +kernel : Cond.selects yX7_commons.cls yX7_commons yX7_commons ∈ lw_tbl), TX7, 17, rfl⟩
abbrev mX7_editsBetween : Mt := (RX7, yX7_editsBetween, cX7_editsBetween, 9, (some .int), 1)
theorem fx_X7_editsBetween : Cond.code yX7_editsBetween cX7_editsBetween 9 (some .int) ∈ lw_tbl ∧ Cond.initialized yX7_editsBetween.cls ∈ lw_tbl ∧ (yX7_editsBetween.cls ≠ "java/lang/invoke/MethodHandle" ∧ yX7_editsBetween.cls ≠ "java/lang/invoke/VarHandle" ∧ (parseMethodDescriptor yX7_editsBetween.desc).map (fun d => d.parameters.length) = some 2) ∧ 9 ≤ 21 ∧ plainName yX7_editsBetween.cls = true ∧ RX7 = yX7_editsBetween.cls := ⟨(by decide +kernel), (by decide +kernel), ⟨(by decide +kernel), (by decide +kernel), (by decide +kernel)⟩, (by decide +kernel), (by decide +kernel), rfl⟩
theorem mv_X7_editsBetween : mV mX7_editsBetween 2 7 := ⟨fx_X7_editsBetween, (by decide +kernel : Cond.instanceMethod yX7_editsBetween ∈ lw_tbl), (by decide +kernel : Cond.selects yX7_editsBetween.cls yX7_editsBetween yX7_editsBetween ∈ lw_tbl), TX7, 17, rfl⟩
abbrev mX7_between : Mt := (RX7, yX7_between, cX7_between, 4, (some .int), 3)
theorem fx_X7_between : Cond.code yX7_between cX7_between 4 (some .int) ∈ lw_tbl ∧ Cond.initialized yX7_between.cls ∈ lw_tbl ∧ (yX7_between.cls ≠ "java/lang/invoke/MethodHandle" ∧ yX7_between.cls ≠ "java/lang/invoke/VarHandle" ∧ (parseMethodDescriptor yX7_between.desc).map (fun d => d.parameters.length) = some 3) ∧ 4 ≤ 21 ∧ plainName yX7_between.cls = true ∧ RX7 = yX7_between.cls := ⟨(by decide +kernel), (by decide +kernel), ⟨(by decide +kernel), (by decide +kernel), (by decide +kernel)⟩, (by decide +kernel), (by decide +kernel), rfl⟩
theorem mv_X7_between : mV mX7_between 3 7 := ⟨fx_X7_between, (by decide +kernel : Cond.instanceMethod yX7_between ∈ lw_tbl), (by decide +kernel : Cond.selects yX7_between.cls yX7_between yX7_between ∈ lw_tbl), TX7, 17, rfl⟩
abbrev mX7_parts : Mt := (RX7, yX7_parts, cX7_parts, 9, (some .long), 2)
theorem fx_X7_parts : Cond.code yX7_parts cX7_parts 9 (some .long) ∈ lw_tbl ∧ Cond.initialized yX7_parts.cls ∈ lw_tbl ∧ (yX7_parts.cls ≠ "java/lang/invoke/MethodHandle" ∧ yX7_parts.cls ≠ "java/lang/invoke/VarHandle" ∧ (parseMethodDescriptor yX7_parts.desc).map (fun d => d.parameters.length) = some 2) ∧ 9 ≤ 21 ∧ plainName yX7_parts.cls = true ∧ RX7 = yX7_parts.cls := ⟨(by decide +kernel), (by decide +kernel), ⟨(by decide +kernel), (by decide +kernel), (by decide +kernel)⟩, (by decide +kernel), (by decide +kernel), rfl⟩
theorem mv_X7_parts : mV mX7_parts 2 7 := ⟨fx_X7_parts, (by decide +kernel : Cond.instanceMethod yX7_parts ∈ lw_tbl), (by decide +kernel : Cond.selects yX7_parts.cls yX7_parts yX7_parts ∈ lw_tbl), TX7, 17, rfl⟩
abbrev mX7_gained : Mt := (RX7, yX7_gained, cX7_gained, 10, (some .long), 1)
theorem fx_X7_gained : Cond.code yX7_gained cX7_gained 10 (some .long) ∈ lw_tbl ∧ Cond.initialized yX7_gained.cls ∈ lw_tbl ∧ (yX7_gained.cls ≠ "java/lang/invoke/MethodHandle" ∧ yX7_gained.cls ≠ "java/lang/invoke/VarHandle" ∧ (parseMethodDescriptor yX7_gained.desc).map (fun d => d.parameters.length) = some 2) ∧ 10 ≤ 21 ∧ plainName yX7_gained.cls = true ∧ RX7 = yX7_gained.cls := ⟨(by decide +kernel), (by decide +kernel), ⟨(by decide +kernel), (by decide +kernel), (by decide +kernel)⟩, (by decide +kernel), (by decide +kernel), rfl⟩
theorem mv_X7_gained : mV mX7_gained 2 7 := ⟨fx_X7_gained, (by decide +kernel : Cond.instanceMethod yX7_gained ∈ lw_tbl), (by decide +kernel : Cond.selects yX7_gained.cls yX7_gained yX7_gained ∈ lw_tbl), TX7, 17, rfl⟩
abbrev mX7_by : Mt := (RX7, yX7_by, cX7_by, 4, (some .long), 3)
theorem fx_X7_by : Cond.code yX7_by cX7_by 4 (some .long) ∈ lw_tbl ∧ Cond.initialized yX7_by.cls ∈ lw_tbl ∧ (yX7_by.cls ≠ "java/lang/invoke/MethodHandle" ∧ yX7_by.cls ≠ "java/lang/invoke/VarHandle" ∧ (parseMethodDescriptor yX7_by.desc).map (fun d => d.parameters.length) = some 3) ∧ 4 ≤ 21 ∧ plainName yX7_by.cls = true ∧ RX7 = yX7_by.cls := ⟨(by decide +kernel), (by decide +kernel), ⟨(by decide +kernel), (by decide +kernel), (by decide +kernel)⟩, (by decide +kernel), (by decide +kernel), rfl⟩
theorem mv_X7_by : mV mX7_by 3 7 := ⟨fx_X7_by, (by decide +kernel : Cond.instanceMethod yX7_by ∈ lw_tbl), (by decide +kernel : Cond.selects yX7_by.cls yX7_by yX7_by ∈ lw_tbl), TX7, 17, rfl⟩
abbrev mX7_trace : Mt := (RX7, yX7_trace, cX7_trace, 2, (some .int), 3)
theorem fx_X7_trace : Cond.code yX7_trace cX7_trace 2 (some .int) ∈ lw_tbl ∧ Cond.initialized yX7_trace.cls ∈ lw_tbl ∧ (yX7_trace.cls ≠ "java/lang/invoke/MethodHandle" ∧ yX7_trace.cls ≠ "java/lang/invoke/VarHandle" ∧ (parseMethodDescriptor yX7_trace.desc).map (fun d => d.parameters.length) = some 1) ∧ 2 ≤ 21 ∧ plainName yX7_trace.cls = true ∧ RX7 = yX7_trace.cls := ⟨(by decide +kernel), (by decide +kernel), ⟨(by decide +kernel), (by decide +kernel), (by decide +kernel)⟩, (by decide +kernel), (by decide +kernel), rfl⟩
theorem mv_X7_trace : mV mX7_trace 1 7 := ⟨fx_X7_trace, (by decide +kernel : Cond.instanceMethod yX7_trace ∈ lw_tbl), (by decide +kernel : Cond.selects yX7_trace.cls yX7_trace yX7_trace ∈ lw_tbl), TX7, 17, rfl⟩
abbrev mX7_noTraces : Mt := (RX7, yX7_noTraces, cX7_noTraces, 2, (some .int), 1)
theorem fx_X7_noTraces : Cond.code yX7_noTraces cX7_noTraces 2 (some .int) ∈ lw_tbl ∧ Cond.initialized yX7_noTraces.cls ∈ lw_tbl ∧ (yX7_noTraces.cls ≠ "java/lang/invoke/MethodHandle" ∧ yX7_noTraces.cls ≠ "java/lang/invoke/VarHandle" ∧ (parseMethodDescriptor yX7_noTraces.desc).map (fun d => d.parameters.length) = some 0) ∧ 2 ≤ 21 ∧ plainName yX7_noTraces.cls = true ∧ RX7 = yX7_noTraces.cls := ⟨(by decide +kernel), (by decide +kernel), ⟨(by decide +kernel), (by decide +kernel), (by decide +kernel)⟩, (by decide +kernel), (by decide +kernel), rfl⟩
theorem mv_X7_noTraces : mV mX7_noTraces 0 7 := ⟨fx_X7_noTraces, (by decide +kernel : Cond.instanceMethod yX7_noTraces ∈ lw_tbl), (by decide +kernel : Cond.selects yX7_noTraces.cls yX7_noTraces yX7_noTraces ∈ lw_tbl), TX7, 17, rfl⟩
abbrev mX7_power : Mt := (RX7, yX7_power, cX7_power, 4, (some .int), 1)
theorem fx_X7_power : Cond.code yX7_power cX7_power 4 (some .int) ∈ lw_tbl ∧ Cond.initialized yX7_power.cls ∈ lw_tbl ∧ (yX7_power.cls ≠ "java/lang/invoke/MethodHandle" ∧ yX7_power.cls ≠ "java/lang/invoke/VarHandle" ∧ (parseMethodDescriptor yX7_power.desc).map (fun d => d.parameters.length) = some 1) ∧ 4 ≤ 21 ∧ plainName yX7_power.cls = true ∧ RX7 = yX7_power.cls := ⟨(by decide +kernel), (by decide +kernel), ⟨(by decide +kernel), (by decide +kernel), (by decide +kernel)⟩, (by decide +kernel), (by decide +kernel), rfl⟩
theorem mv_X7_power : mV mX7_power 1 7 := ⟨fx_X7_power, (by decide +kernel : Cond.instanceMethod yX7_power ∈ lw_tbl), (by decide +kernel : Cond.selects yX7_power.cls yX7_power yX7_power ∈ lw_tbl), TX7, 17, rfl⟩
abbrev mX7_numbers : Mt := (RX7, yX7_numbers, cX7_numbers, 5, none, 1)
theorem fx_X7_numbers : Cond.code yX7_numbers cX7_numbers 5 none ∈ lw_tbl ∧ Cond.initialized yX7_numbers.cls ∈ lw_tbl ∧ (yX7_numbers.cls ≠ "java/lang/invoke/MethodHandle" ∧ yX7_numbers.cls ≠ "java/lang/invoke/VarHandle" ∧ (parseMethodDescriptor yX7_numbers.desc).map (fun d => d.parameters.length) = some 2) ∧ 5 ≤ 21 ∧ plainName yX7_numbers.cls = true ∧ RX7 = yX7_numbers.cls := ⟨(by decide +kernel), (by decide +kernel), ⟨(by decide +kernel), (by decide +kernel), (by decide +kernel)⟩, (by decide +kernel), (by decide +kernel), rfl⟩
theorem mv_X7_numbers : mV mX7_numbers 2 7 := ⟨fx_X7_numbers, (by decide +kernel : Cond.instanceMethod yX7_numbers ∈ lw_tbl), (by decide +kernel : Cond.selects yX7_numbers.cls yX7_numbers yX7_numbers ∈ lw_tbl), TX7, 17, rfl⟩
abbrev mX7_product : Mt := (RX7, yX7_product, cX7_product, 6, (some .long), 2)
theorem fx_X7_product : Cond.code yX7_product cX7_product 6 (some .long) ∈ lw_tbl ∧ Cond.initialized yX7_product.cls ∈ lw_tbl ∧ (yX7_product.cls ≠ "java/lang/invoke/MethodHandle" ∧ yX7_product.cls ≠ "java/lang/invoke/VarHandle" ∧ (parseMethodDescriptor yX7_product.desc).map (fun d => d.parameters.length) = some 0) ∧ 6 ≤ 21 ∧ plainName yX7_product.cls = true ∧ RX7 = yX7_product.cls := ⟨(by decide +kernel), (by decide +kernel), ⟨(by decide +kernel), (by decide +kernel), (by decide +kernel)⟩, (by decide +kernel), (by decide +kernel), rfl⟩
theorem mv_X7_product : mV mX7_product 0 7 := ⟨fx_X7_product, (by decide +kernel : Cond.instanceMethod yX7_product ∈ lw_tbl), (by decide +kernel : Cond.selects yX7_product.cls yX7_product yX7_product ∈ lw_tbl), TX7, 17, rfl⟩
abbrev mX7_sources : Mt := (RX7, yX7_sources, cX7_sources, 4, (some .int), 3)
theorem fx_X7_sources : Cond.code yX7_sources cX7_sources 4 (some .int) ∈ lw_tbl ∧ Cond.initialized yX7_sources.cls ∈ lw_tbl ∧ (yX7_sources.cls ≠ "java/lang/invoke/MethodHandle" ∧ yX7_sources.cls ≠ "java/lang/invoke/VarHandle" ∧ (parseMethodDescriptor yX7_sources.desc).map (fun d => d.parameters.length) = some 1) ∧ 4 ≤ 21 ∧ plainName yX7_sources.cls = true ∧ RX7 = yX7_sources.cls := ⟨(by decide +kernel), (by decide +kernel), ⟨(by decide +kernel), (by decide +kernel), (by decide +kernel)⟩, (by decide +kernel), (by decide +kernel), rfl⟩
theorem mv_X7_sources : mV mX7_sources 1 7 := ⟨fx_X7_sources, (by decide +kernel : Cond.instanceMethod yX7_sources ∈ lw_tbl), (by decide +kernel : Cond.selects yX7_sources.cls yX7_sources yX7_sources ∈ lw_tbl), TX7, 17, rfl⟩
abbrev mX7_best : Mt := (RX7, yX7_best, cX7_best, 8, (some .int), 3)
theorem fx_X7_best : Cond.code yX7_best cX7_best 8 (some .int) ∈ lw_tbl ∧ Cond.initialized yX7_best.cls ∈ lw_tbl ∧ (yX7_best.cls ≠ "java/lang/invoke/MethodHandle" ∧ yX7_best.cls ≠ "java/lang/invoke/VarHandle" ∧ (parseMethodDescriptor yX7_best.desc).map (fun d => d.parameters.length) = some 2) ∧ 8 ≤ 21 ∧ plainName yX7_best.cls = true ∧ RX7 = yX7_best.cls := ⟨(by decide +kernel), (by decide +kernel), ⟨(by decide +kernel), (by decide +kernel), (by decide +kernel)⟩, (by decide +kernel), (by decide +kernel), rfl⟩
theorem mv_X7_best : mV mX7_best 2 7 := ⟨fx_X7_best, (by decide +kernel : Cond.instanceMethod yX7_best ∈ lw_tbl), (by decide +kernel : Cond.selects yX7_best.cls yX7_best yX7_best ∈ lw_tbl), TX7, 17, rfl⟩
abbrev mX7_line : Mt := (RX7, yX7_line, cX7_line, 4, (some .int), 2)
theorem fx_X7_line : Cond.code yX7_line cX7_line 4 (some .int) ∈ lw_tbl ∧ Cond.initialized yX7_line.cls ∈ lw_tbl ∧ (yX7_line.cls ≠ "java/lang/invoke/MethodHandle" ∧ yX7_line.cls ≠ "java/lang/invoke/VarHandle" ∧ (parseMethodDescriptor yX7_line.desc).map (fun d => d.parameters.length) = some 3) ∧ 4 ≤ 21 ∧ plainName yX7_line.cls = true ∧ RX7 = yX7_line.cls := ⟨(by decide +kernel), (by decide +kernel), ⟨(by decide +kernel), (by decide +kernel), (by decide +kernel)⟩, (by decide +kernel), (by decide +kernel), rfl⟩
theorem mv_X7_line : mV mX7_line 3 7 := ⟨fx_X7_line, (by decide +kernel : Cond.instanceMethod yX7_line ∈ lw_tbl), (by decide +kernel : Cond.selects yX7_line.cls yX7_line yX7_line ∈ lw_tbl), TX7, 17, rfl⟩
abbrev mX7_seed : Mt := (RX7, yX7_seed, cX7_seed, 3, (some .int), 1)
theorem fx_X7_seed : Cond.code yX7_seed cX7_seed 3 (some .int) ∈ lw_tbl ∧ Cond.initialized yX7_seed.cls ∈ lw_tbl ∧ (yX7_seed.cls ≠ "java/lang/invoke/MethodHandle" ∧ yX7_seed.cls ≠ "java/lang/invoke/VarHandle" ∧ (parseMethodDescriptor yX7_seed.desc).map (fun d => d.parameters.length) = some 1) ∧ 3 ≤ 21 ∧ plainName yX7_seed.cls = true ∧ RX7 = yX7_seed.cls := ⟨(by decide +kernel), (by decide +kernel), ⟨(by decide +kernel), (by decide +kernel), (by decide +kernel)⟩, (by decide +kernel), (by decide +kernel), rfl⟩
theorem mv_X7_seed : mV mX7_seed 1 7 := ⟨fx_X7_seed, (by decide +kernel : Cond.instanceMethod yX7_seed ∈ lw_tbl), (by decide +kernel : Cond.selects yX7_seed.cls yX7_seed yX7_seed ∈ lw_tbl), TX7, 17, rfl⟩
abbrev mX7_send : Mt := (RX7, yX7_send, cX7_send, 9, (some .int), 3)
theorem fx_X7_send : Cond.code yX7_send cX7_send 9 (some .int) ∈ lw_tbl ∧ Cond.initialized yX7_send.cls ∈ lw_tbl ∧ (yX7_send.cls ≠ "java/lang/invoke/MethodHandle" ∧ yX7_send.cls ≠ "java/lang/invoke/VarHandle" ∧ (parseMethodDescriptor yX7_send.desc).map (fun d => d.parameters.length) = some 2) ∧ 9 ≤ 21 ∧ plainName yX7_send.cls = true ∧ RX7 = yX7_send.cls := ⟨(by decide +kernel), (by decide +kernel), ⟨(by decide +kernel), (by decide +kernel), (by decide +kernel)⟩, (by decide +kernel), (by decide +kernel), rfl⟩
theorem mv_X7_send : mV mX7_send 2 7 := ⟨fx_X7_send, (by decide +kernel : Cond.instanceMethod yX7_send ∈ lw_tbl), (by decide +kernel : Cond.selects yX7_send.cls yX7_send yX7_send ∈ lw_tbl), TX7, 17, rfl⟩
abbrev mX7_adds : Mt := (RX7, yX7_adds, cX7_adds, 3, (some .int), 2)
theorem fx_X7_adds : Cond.code yX7_adds cX7_adds 3 (some .int) ∈ lw_tbl ∧ Cond.initialized yX7_adds.cls ∈ lw_tbl ∧ (yX7_adds.cls ≠ "java/lang/invoke/MethodHandle" ∧ yX7_adds.cls ≠ "java/lang/invoke/VarHandle" ∧ (parseMethodDescriptor yX7_adds.desc).map (fun d => d.parameters.length) = some 2) ∧ 3 ≤ 21 ∧ plainName yX7_adds.cls = true ∧ RX7 = yX7_adds.cls := ⟨(by decide +kernel), (by decide +kernel), ⟨(by decide +kernel), (by decide +kernel), (by decide +kernel)⟩, (by decide +kernel), (by decide +kernel), rfl⟩
theorem mv_X7_adds : mV mX7_adds 2 7 := ⟨fx_X7_adds, (by decide +kernel : Cond.instanceMethod yX7_adds ∈ lw_tbl), (by decide +kernel : Cond.selects yX7_adds.cls yX7_adds yX7_adds ∈ lw_tbl), TX7, 17, rfl⟩
abbrev mX7_count : Mt := (RX7, yX7_count, cX7_count, 4, (some .int), 1)
theorem fx_X7_count : Cond.code yX7_count cX7_count 4 (some .int) ∈ lw_tbl ∧ Cond.initialized yX7_count.cls ∈ lw_tbl ∧ (yX7_count.cls ≠ "java/lang/invoke/MethodHandle" ∧ yX7_count.cls ≠ "java/lang/invoke/VarHandle" ∧ (parseMethodDescriptor yX7_count.desc).map (fun d => d.parameters.length) = some 1) ∧ 4 ≤ 21 ∧ plainName yX7_count.cls = true ∧ RX7 = yX7_count.cls := ⟨(by decide +kernel), (by decide +kernel), ⟨(by decide +kernel), (by decide +kernel), (by decide +kernel)⟩, (by decide +kernel), (by decide +kernel), rfl⟩
theorem mv_X7_count : mV mX7_count 1 7 := ⟨fx_X7_count, (by decide +kernel : Cond.instanceMethod yX7_count ∈ lw_tbl), (by decide +kernel : Cond.selects yX7_count.cls yX7_count yX7_count ∈ lw_tbl), TX7, 17, rfl⟩
abbrev mX0_init : Mt := (RX0, yX0_init, cX0_init, 1, none, 2)
theorem fx_X0_init : Cond.code yX0_init cX0_init 1 none ∈ lw_tbl ∧ Cond.initialized yX0_init.cls ∈ lw_tbl ∧ (yX0_init.cls ≠ "java/lang/invoke/MethodHandle" ∧ yX0_init.cls ≠ "java/lang/invoke/VarHandle" ∧ (parseMethodDescriptor yX0_init.desc).map (fun d => d.parameters.length) = some 0) ∧ 1 ≤ 21 ∧ plainName yX0_init.cls = true ∧ RX0 = yX0_init.cls := ⟨(by decide +kernel), (by decide +kernel), ⟨(by decide +kernel), (by decide +kernel), (by decide +kernel)⟩, (by decide +kernel), (by decide +kernel), rfl⟩
theorem mi_X0_init : mI mX0_init 0 := ⟨fx_X0_init, (by decide +kernel), rfl, rfl⟩
abbrev mX0_stands : Mt := (RX0, yX0_stands, cX0_stands, 1, (some .boolean), 1)
theorem fx_X0_stands : Cond.code yX0_stands cX0_stands 1 (some .boolean) ∈ lw_tbl ∧ Cond.initialized yX0_stands.cls ∈ lw_tbl ∧ (yX0_stands.cls ≠ "java/lang/invoke/MethodHandle" ∧ yX0_stands.cls ≠ "java/lang/invoke/VarHandle" ∧ (parseMethodDescriptor yX0_stands.desc).map (fun d => d.parameters.length) = some 0) ∧ 1 ≤ 21 ∧ plainName yX0_stands.cls = true ∧ RX0 = yX0_stands.cls := ⟨(by decide +kernel), (by decide +kernel), ⟨(by decide +kernel), (by decide +kernel), (by decide +kernel)⟩, (by decide +kernel), (by decide +kernel), rfl⟩
theorem mv_X0_stands : mV mX0_stands 0 0 := ⟨fx_X0_stands, (by decide +kernel : Cond.instanceMethod yX0_stands ∈ lw_tbl), (by decide +kernel : Cond.selects yX0_stands.cls yX0_stands yX0_stands ∈ lw_tbl), TX0, 10, rfl⟩
abbrev mX0_forget : Mt := (RX0, yX0_forget, cX0_forget, 1, none, 1)
theorem fx_X0_forget : Cond.code yX0_forget cX0_forget 1 none ∈ lw_tbl ∧ Cond.initialized yX0_forget.cls ∈ lw_tbl ∧ (yX0_forget.cls ≠ "java/lang/invoke/MethodHandle" ∧ yX0_forget.cls ≠ "java/lang/invoke/VarHandle" ∧ (parseMethodDescriptor yX0_forget.desc).map (fun d => d.parameters.length) = some 0) ∧ 1 ≤ 21 ∧ plainName yX0_forget.cls = true ∧ RX0 = yX0_forget.cls := ⟨(by decide +kernel), (by decide +kernel), ⟨(by decide +kernel), (by decide +kernel), (by decide +kernel)⟩, (by decide +kernel), (by decide +kernel), rfl⟩
theorem mv_X0_forget : mV mX0_forget 0 0 := ⟨fx_X0_forget, (by decide +kernel : Cond.instanceMethod yX0_forget ∈ lw_tbl), (by decide +kernel : Cond.selects yX0_forget.cls yX0_forget yX0_forget ∈ lw_tbl), TX0, 10, rfl⟩
abbrev mX0_tell : Mt := (RX0, yX0_tell, cX0_tell, 6, none, 6)
theorem fx_X0_tell : Cond.code yX0_tell cX0_tell 6 none ∈ lw_tbl ∧ Cond.initialized yX0_tell.cls ∈ lw_tbl ∧ (yX0_tell.cls ≠ "java/lang/invoke/MethodHandle" ∧ yX0_tell.cls ≠ "java/lang/invoke/VarHandle" ∧ (parseMethodDescriptor yX0_tell.desc).map (fun d => d.parameters.length) = some 5) ∧ 6 ≤ 21 ∧ plainName yX0_tell.cls = true ∧ RX0 = yX0_tell.cls := ⟨(by decide +kernel), (by decide +kernel), ⟨(by decide +kernel), (by decide +kernel), (by decide +kernel)⟩, (by decide +kernel), (by decide +kernel), rfl⟩
theorem mv_X0_tell : mV mX0_tell 5 0 := ⟨fx_X0_tell, (by decide +kernel : Cond.instanceMethod yX0_tell ∈ lw_tbl), (by decide +kernel : Cond.selects yX0_tell.cls yX0_tell yX0_tell ∈ lw_tbl), TX0, 10, rfl⟩
abbrev mX0_makeRoom : Mt := (RX0, yX0_makeRoom, cX0_makeRoom, 2, none, 2)
theorem fx_X0_makeRoom : Cond.code yX0_makeRoom cX0_makeRoom 2 none ∈ lw_tbl ∧ Cond.initialized yX0_makeRoom.cls ∈ lw_tbl ∧ (yX0_makeRoom.cls ≠ "java/lang/invoke/MethodHandle" ∧ yX0_makeRoom.cls ≠ "java/lang/invoke/VarHandle" ∧ (parseMethodDescriptor yX0_makeRoom.desc).map (fun d => d.parameters.length) = some 0) ∧ 2 ≤ 21 ∧ plainName yX0_makeRoom.cls = true ∧ RX0 = yX0_makeRoom.cls := ⟨(by decide +kernel), (by decide +kernel), ⟨(by decide +kernel), (by decide +kernel), (by decide +kernel)⟩, (by decide +kernel), (by decide +kernel), rfl⟩
theorem mv_X0_makeRoom : mV mX0_makeRoom 0 0 := ⟨fx_X0_makeRoom, (by decide +kernel : Cond.instanceMethod yX0_makeRoom ∈ lw_tbl), (by decide +kernel : Cond.selects yX0_makeRoom.cls yX0_makeRoom yX0_makeRoom ∈ lw_tbl), TX0, 10, rfl⟩
abbrev mX0_countWays : Mt := (RX0, yX0_countWays, cX0_countWays, 3, none, 5)
theorem fx_X0_countWays : Cond.code yX0_countWays cX0_countWays 3 none ∈ lw_tbl ∧ Cond.initialized yX0_countWays.cls ∈ lw_tbl ∧ (yX0_countWays.cls ≠ "java/lang/invoke/MethodHandle" ∧ yX0_countWays.cls ≠ "java/lang/invoke/VarHandle" ∧ (parseMethodDescriptor yX0_countWays.desc).map (fun d => d.parameters.length) = some 0) ∧ 3 ≤ 21 ∧ plainName yX0_countWays.cls = true ∧ RX0 = yX0_countWays.cls := ⟨(by decide +kernel), (by decide +kernel), ⟨(by decide +kernel), (by decide +kernel), (by decide +kernel)⟩, (by decide +kernel), (by decide +kernel), rfl⟩
theorem mv_X0_countWays : mV mX0_countWays 0 0 := ⟨fx_X0_countWays, (by decide +kernel : Cond.instanceMethod yX0_countWays ∈ lw_tbl), (by decide +kernel : Cond.selects yX0_countWays.cls yX0_countWays yX0_countWays ∈ lw_tbl), TX0, 10, rfl⟩
abbrev mX0_countWaysBehind : Mt := (RX0, yX0_countWaysBehind, cX0_countWaysBehind, 5, none, 4)
theorem fx_X0_countWaysBehind : Cond.code yX0_countWaysBehind cX0_countWaysBehind 5 none ∈ lw_tbl ∧ Cond.initialized yX0_countWaysBehind.cls ∈ lw_tbl ∧ (yX0_countWaysBehind.cls ≠ "java/lang/invoke/MethodHandle" ∧ yX0_countWaysBehind.cls ≠ "java/lang/invoke/VarHandle" ∧ (parseMethodDescriptor yX0_countWaysBehind.desc).map (fun d => d.parameters.length) = some 2) ∧ 5 ≤ 21 ∧ plainName yX0_countWaysBehind.cls = true ∧ RX0 = yX0_countWaysBehind.cls := ⟨(by decide +kernel), (by decide +kernel), ⟨(by decide +kernel), (by decide +kernel), (by decide +kernel)⟩, (by decide +kernel), (by decide +kernel), rfl⟩
theorem mv_X0_countWaysBehind : mV mX0_countWaysBehind 2 0 := ⟨fx_X0_countWaysBehind, (by decide +kernel : Cond.instanceMethod yX0_countWaysBehind ∈ lw_tbl), (by decide +kernel : Cond.selects yX0_countWaysBehind.cls yX0_countWaysBehind yX0_countWaysBehind ∈ lw_tbl), TX0, 10, rfl⟩
abbrev mX0_waysByNext : Mt := (RX0, yX0_waysByNext, cX0_waysByNext, 7, (some .int), 3)
theorem fx_X0_waysByNext : Cond.code yX0_waysByNext cX0_waysByNext 7 (some .int) ∈ lw_tbl ∧ Cond.initialized yX0_waysByNext.cls ∈ lw_tbl ∧ (yX0_waysByNext.cls ≠ "java/lang/invoke/MethodHandle" ∧ yX0_waysByNext.cls ≠ "java/lang/invoke/VarHandle" ∧ (parseMethodDescriptor yX0_waysByNext.desc).map (fun d => d.parameters.length) = some 4) ∧ 7 ≤ 21 ∧ plainName yX0_waysByNext.cls = true ∧ RX0 = yX0_waysByNext.cls := ⟨(by decide +kernel), (by decide +kernel), ⟨(by decide +kernel), (by decide +kernel), (by decide +kernel)⟩, (by decide +kernel), (by decide +kernel), rfl⟩
theorem mv_X0_waysByNext : mV mX0_waysByNext 4 0 := ⟨fx_X0_waysByNext, (by decide +kernel : Cond.instanceMethod yX0_waysByNext ∈ lw_tbl), (by decide +kernel : Cond.selects yX0_waysByNext.cls yX0_waysByNext yX0_waysByNext ∈ lw_tbl), TX0, 10, rfl⟩
abbrev mX0_waysToEnd : Mt := (RX0, yX0_waysToEnd, cX0_waysToEnd, 5, (some .int), 2)
theorem fx_X0_waysToEnd : Cond.code yX0_waysToEnd cX0_waysToEnd 5 (some .int) ∈ lw_tbl ∧ Cond.initialized yX0_waysToEnd.cls ∈ lw_tbl ∧ (yX0_waysToEnd.cls ≠ "java/lang/invoke/MethodHandle" ∧ yX0_waysToEnd.cls ≠ "java/lang/invoke/VarHandle" ∧ (parseMethodDescriptor yX0_waysToEnd.desc).map (fun d => d.parameters.length) = some 4) ∧ 5 ≤ 21 ∧ plainName yX0_waysToEnd.cls = true ∧ RX0 = yX0_waysToEnd.cls := ⟨(by decide +kernel), (by decide +kernel), ⟨(by decide +kernel), (by decide +kernel), (by decide +kernel)⟩, (by decide +kernel), (by decide +kernel), rfl⟩
theorem mv_X0_waysToEnd : mV mX0_waysToEnd 4 0 := ⟨fx_X0_waysToEnd, (by decide +kernel : Cond.instanceMethod yX0_waysToEnd ∈ lw_tbl), (by decide +kernel : Cond.selects yX0_waysToEnd.cls yX0_waysToEnd yX0_waysToEnd ∈ lw_tbl), TX0, 10, rfl⟩
abbrev mX0_cell : Mt := (RX0, yX0_cell, cX0_cell, 5, (some .int), 1)
theorem fx_X0_cell : Cond.code yX0_cell cX0_cell 5 (some .int) ∈ lw_tbl ∧ Cond.initialized yX0_cell.cls ∈ lw_tbl ∧ (yX0_cell.cls ≠ "java/lang/invoke/MethodHandle" ∧ yX0_cell.cls ≠ "java/lang/invoke/VarHandle" ∧ (parseMethodDescriptor yX0_cell.desc).map (fun d => d.parameters.length) = some 4) ∧ 5 ≤ 21 ∧ plainName yX0_cell.cls = true ∧ RX0 = yX0_cell.cls := ⟨(by decide +kernel), (by decide +kernel), ⟨(by decide +kernel), (by decide +kernel), (by decide +kernel)⟩, (by decide +kernel), (by decide +kernel), rfl⟩
theorem mv_X0_cell : mV mX0_cell 4 0 := ⟨fx_X0_cell, (by decide +kernel : Cond.instanceMethod yX0_cell ∈ lw_tbl), (by decide +kernel : Cond.selects yX0_cell.cls yX0_cell yX0_cell ∈ lw_tbl), TX0, 10, rfl⟩
abbrev mX0_sumWith : Mt := (RX0, yX0_sumWith, cX0_sumWith, 5, (some .int), 1)
theorem fx_X0_sumWith : Cond.code yX0_sumWith cX0_sumWith 5 (some .int) ∈ lw_tbl ∧ Cond.initialized yX0_sumWith.cls ∈ lw_tbl ∧ (yX0_sumWith.cls ≠ "java/lang/invoke/MethodHandle" ∧ yX0_sumWith.cls ≠ "java/lang/invoke/VarHandle" ∧ (parseMethodDescriptor yX0_sumWith.desc).map (fun d => d.parameters.length) = some 4) ∧ 5 ≤ 21 ∧ plainName yX0_sumWith.cls = true ∧ RX0 = yX0_sumWith.cls := ⟨(by decide +kernel), (by decide +kernel), ⟨(by decide +kernel), (by decide +kernel), (by decide +kernel)⟩, (by decide +kernel), (by decide +kernel), rfl⟩
theorem mv_X0_sumWith : mV mX0_sumWith 4 0 := ⟨fx_X0_sumWith, (by decide +kernel : Cond.instanceMethod yX0_sumWith ∈ lw_tbl), (by decide +kernel : Cond.selects yX0_sumWith.cls yX0_sumWith yX0_sumWith ∈ lw_tbl), TX0, 10, rfl⟩
abbrev mX0_sumOf : Mt := (RX0, yX0_sumOf, cX0_sumOf, 6, (some .int), 2)
theorem fx_X0_sumOf : Cond.code yX0_sumOf cX0_sumOf 6 (some .int) ∈ lw_tbl ∧ Cond.initialized yX0_sumOf.cls ∈ lw_tbl ∧ (yX0_sumOf.cls ≠ "java/lang/invoke/MethodHandle" ∧ yX0_sumOf.cls ≠ "java/lang/invoke/VarHandle" ∧ (parseMethodDescriptor yX0_sumOf.desc).map (fun d => d.parameters.length) = some 1) ∧ 6 ≤ 21 ∧ plainName yX0_sumOf.cls = true ∧ RX0 = yX0_sumOf.cls := ⟨(by decide +kernel), (by decide +kernel), ⟨(by decide +kernel), (by decide +kernel), (by decide +kernel)⟩, (by decide +kernel), (by decide +kernel), rfl⟩
theorem mv_X0_sumOf : mV mX0_sumOf 1 0 := ⟨fx_X0_sumOf, (by decide +kernel : Cond.instanceMethod yX0_sumOf ∈ lw_tbl), (by decide +kernel : Cond.selects yX0_sumOf.cls yX0_sumOf yX0_sumOf ∈ lw_tbl), TX0, 10, rfl⟩
abbrev mX0_holds : Mt := (RX0, yX0_holds, cX0_holds, 4, (some .boolean), 3)
theorem fx_X0_holds : Cond.code yX0_holds cX0_holds 4 (some .boolean) ∈ lw_tbl ∧ Cond.initialized yX0_holds.cls ∈ lw_tbl ∧ (yX0_holds.cls ≠ "java/lang/invoke/MethodHandle" ∧ yX0_holds.cls ≠ "java/lang/invoke/VarHandle" ∧ (parseMethodDescriptor yX0_holds.desc).map (fun d => d.parameters.length) = some 1) ∧ 4 ≤ 21 ∧ plainName yX0_holds.cls = true ∧ RX0 = yX0_holds.cls := ⟨(by decide +kernel), (by decide +kernel), ⟨(by decide +kernel), (by decide +kernel), (by decide +kernel)⟩, (by decide +kernel), (by decide +kernel), rfl⟩
theorem mv_X0_holds : mV mX0_holds 1 0 := ⟨fx_X0_holds, (by decide +kernel : Cond.instanceMethod yX0_holds ∈ lw_tbl), (by decide +kernel : Cond.selects yX0_holds.cls yX0_holds yX0_holds ∈ lw_tbl), TX0, 10, rfl⟩
abbrev mX0_write : Mt := (RX0, yX0_write, cX0_write, 10, none, 4)
theorem fx_X0_write : Cond.code yX0_write cX0_write 10 none ∈ lw_tbl ∧ Cond.initialized yX0_write.cls ∈ lw_tbl ∧ (yX0_write.cls ≠ "java/lang/invoke/MethodHandle" ∧ yX0_write.cls ≠ "java/lang/invoke/VarHandle" ∧ (parseMethodDescriptor yX0_write.desc).map (fun d => d.parameters.length) = some 2) ∧ 10 ≤ 21 ∧ plainName yX0_write.cls = true ∧ RX0 = yX0_write.cls := ⟨(by decide +kernel), (by decide +kernel), ⟨(by decide +kernel), (by decide +kernel), (by decide +kernel)⟩, (by decide +kernel), (by decide +kernel), rfl⟩
theorem mv_X0_write : mV mX0_write 2 0 := ⟨fx_X0_write, (by decide +kernel : Cond.instanceMethod yX0_write ∈ lw_tbl), (by decide +kernel : Cond.selects yX0_write.cls yX0_write yX0_write ∈ lw_tbl), TX0, 10, rfl⟩
abbrev mX0_neighbours : Mt := (RX0, yX0_neighbours, cX0_neighbours, 2, (some .int), 6)
theorem fx_X0_neighbours : Cond.code yX0_neighbours cX0_neighbours 2 (some .int) ∈ lw_tbl ∧ Cond.initialized yX0_neighbours.cls ∈ lw_tbl ∧ (yX0_neighbours.cls ≠ "java/lang/invoke/MethodHandle" ∧ yX0_neighbours.cls ≠ "java/lang/invoke/VarHandle" ∧ (parseMethodDescriptor yX0_neighbours.desc).map (fun d => d.parameters.length) = some 1) ∧ 2 ≤ 21 ∧ plainName yX0_neighbours.cls = true ∧ RX0 = yX0_neighbours.cls := ⟨(by decide +kernel), (by decide +kernel), ⟨(by decide +kernel), (by decide +kernel), (by decide +kernel)⟩, (by decide +kernel), (by decide +kernel), rfl⟩
theorem mv_X0_neighbours : mV mX0_neighbours 1 0 := ⟨fx_X0_neighbours, (by decide +kernel : Cond.instanceMethod yX0_neighbours ∈ lw_tbl), (by decide +kernel : Cond.selects yX0_neighbours.cls yX0_neighbours yX0_neighbours ∈ lw_tbl), TX0, 10, rfl⟩
abbrev mX0_neighboursByTurn : Mt := (RX0, yX0_neighboursByTurn, cX0_neighboursByTurn, 5, (some .int), 5)
theorem fx_X0_neighboursByTurn : Cond.code yX0_neighboursByTurn cX0_neighboursByTurn 5 (some .int) ∈ lw_tbl ∧ Cond.initialized yX0_neighboursByTurn.cls ∈ lw_tbl ∧ (yX0_neighboursByTurn.cls ≠ "java/lang/invoke/MethodHandle" ∧ yX0_neighboursByTurn.cls ≠ "java/lang/invoke/VarHandle" ∧ (parseMethodDescriptor yX0_neighboursByTurn.desc).map (fun d => d.parameters.length) = some 1) ∧ 5 ≤ 21 ∧ plainName yX0_neighboursByTurn.cls = true ∧ RX0 = yX0_neighboursByTurn.cls := ⟨(by decide +kernel), (by decide +kernel), ⟨(by decide +kernel), (by decide +kernel), (by decide +kernel)⟩, (by decide +kernel), (by decide +kernel), rfl⟩
theorem mv_X0_neighboursByTurn : mV mX0_neighboursByTurn 1 0 := ⟨fx_X0_neighboursByTurn, (by decide +kernel : Cond.instanceMethod yX0_neighboursByTurn ∈ lw_tbl), (by decide +kernel : Cond.selects yX0_neighboursByTurn.cls yX0_neighboursByTurn yX0_neighboursByTurn ∈ lw_tbl), TX0, 10, rfl⟩
abbrev mX0_neighboursByGain : Mt := (RX0, yX0_neighboursByGain, cX0_neighboursByGain, 4, (some .int), 5)
theorem fx_X0_neighboursByGain : Cond.code yX0_neighboursByGain cX0_neighboursByGain 4 (some .int) ∈ lw_tbl ∧ Cond.initialized yX0_neighboursByGain.cls ∈ lw_tbl ∧ (yX0_neighboursByGain.cls ≠ "java/lang/invoke/MethodHandle" ∧ yX0_neighboursByGain.cls ≠ "java/lang/invoke/VarHandle" ∧ (parseMethodDescriptor yX0_neighboursByGain.desc).map (fun d => d.parameters.length) = some 1) ∧ 4 ≤ 21 ∧ plainName yX0_neighboursByGain.cls = true ∧ RX0 = yX0_neighboursByGain.cls := ⟨(by decide +kernel), (by decide +kernel), ⟨(by decide +kernel), (by decide +kernel), (by decide +kernel)⟩, (by decide +kernel), (by decide +kernel), rfl⟩
theorem mv_X0_neighboursByGain : mV mX0_neighboursByGain 1 0 := ⟨fx_X0_neighboursByGain, (by decide +kernel : Cond.instanceMethod yX0_neighboursByGain ∈ lw_tbl), (by decide +kernel : Cond.selects yX0_neighboursByGain.cls yX0_neighboursByGain yX0_neighboursByGain ∈ lw_tbl), TX0, 10, rfl⟩
abbrev mX0_neighboursByLoss : Mt := (RX0, yX0_neighboursByLoss, cX0_neighboursByLoss, 5, (some .int), 5)
theorem fx_X0_neighboursByLoss : Cond.code yX0_neighboursByLoss cX0_neighboursByLoss 5 (some .int) ∈ lw_tbl ∧ Cond.initialized yX0_neighboursByLoss.cls ∈ lw_tbl ∧ (yX0_neighboursByLoss.cls ≠ "java/lang/invoke/MethodHandle" ∧ yX0_neighboursByLoss.cls ≠ "java/lang/invoke/VarHandle" ∧ (parseMethodDescriptor yX0_neighboursByLoss.desc).map (fun d => d.parameters.length) = some 1) ∧ 5 ≤ 21 ∧ plainName yX0_neighboursByLoss.cls = true ∧ RX0 = yX0_neighboursByLoss.cls := ⟨(by decide +kernel), (by decide +kernel), ⟨(by decide +kernel), (by decide +kernel), (by decide +kernel)⟩, (by decide +kernel), (by decide +kernel), rfl⟩
theorem mv_X0_neighboursByLoss : mV mX0_neighboursByLoss 1 0 := ⟨fx_X0_neighboursByLoss, (by decide +kernel : Cond.instanceMethod yX0_neighboursByLoss ∈ lw_tbl), (by decide +kernel : Cond.selects yX0_neighboursByLoss.cls yX0_neighboursByLoss yX0_neighboursByLoss ∈ lw_tbl), TX0, 10, rfl⟩
abbrev mX0_take : Mt := (RX0, yX0_take, cX0_take, 1, (some .int), 4)
theorem fx_X0_take : Cond.code yX0_take cX0_take 1 (some .int) ∈ lw_tbl ∧ Cond.initialized yX0_take.cls ∈ lw_tbl ∧ (yX0_take.cls ≠ "java/lang/invoke/MethodHandle" ∧ yX0_take.cls ≠ "java/lang/invoke/VarHandle" ∧ (parseMethodDescriptor yX0_take.desc).map (fun d => d.parameters.length) = some 0) ∧ 1 ≤ 21 ∧ plainName yX0_take.cls = true ∧ RX0 = yX0_take.cls := ⟨(by decide +kernel), (by decide +kernel), ⟨(by decide +kernel), (by decide +kernel), (by decide +kernel)⟩, (by decide +kernel), (by decide +kernel), rfl⟩
theorem mv_X0_take : mV mX0_take 0 0 := ⟨fx_X0_take, (by decide +kernel : Cond.instanceMethod yX0_take ∈ lw_tbl), (by decide +kernel : Cond.selects yX0_take.cls yX0_take yX0_take ∈ lw_tbl), TX0, 10, rfl⟩
abbrev mX1_init : Mt := (RX1, yX1_init, cX1_init, 1, none, 2)
theorem fx_X1_init : Cond.code yX1_init cX1_init 1 none ∈ lw_tbl ∧ Cond.initialized yX1_init.cls ∈ lw_tbl ∧ (yX1_init.cls ≠ "java/lang/invoke/MethodHandle" ∧ yX1_init.cls ≠ "java/lang/invoke/VarHandle" ∧ (parseMethodDescriptor yX1_init.desc).map (fun d => d.parameters.length) = some 0) ∧ 1 ≤ 21 ∧ plainName yX1_init.cls = true ∧ RX1 = yX1_init.cls := ⟨(by decide +kernel), (by decide +kernel), ⟨(by decide +kernel), (by decide +kernel), (by decide +kernel)⟩, (by decide +kernel), (by decide +kernel), rfl⟩
theorem mi_X1_init : mI mX1_init 0 := ⟨fx_X1_init, (by decide +kernel), rfl, rfl⟩
abbrev mX1_tell : Mt := (RX1, yX1_tell, cX1_tell, 4, none, 1)
theorem fx_X1_tell : Cond.code yX1_tell cX1_tell 4 none ∈ lw_tbl ∧ Cond.initialized yX1_tell.cls ∈ lw_tbl ∧ (yX1_tell.cls ≠ "java/lang/invoke/MethodHandle" ∧ yX1_tell.cls ≠ "java/lang/invoke/VarHandle" ∧ (parseMethodDescriptor yX1_tell.desc).map (fun d => d.parameters.length) = some 3) ∧ 4 ≤ 21 ∧ plainName yX1_tell.cls = true ∧ RX1 = yX1_tell.cls := ⟨(by decide +kernel), (by decide +kernel), ⟨(by decide +kernel), (by decide +kernel), (by decide +kernel)⟩, (by decide +kernel), (by decide +kernel), rfl⟩
theorem mv_X1_tell : mV mX1_tell 3 1 := ⟨fx_X1_tell, (by decide +kernel : Cond.instanceMethod yX1_tell ∈ lw_tbl), (by decide +kernel : Cond.selects yX1_tell.cls yX1_tell yX1_tell ∈ lw_tbl), TX1, 5, rfl⟩
abbrev mX1_carry : Mt := (RX1, yX1_carry, cX1_carry, 6, (some .boolean), 6)
theorem fx_X1_carry : Cond.code yX1_carry cX1_carry 6 (some .boolean) ∈ lw_tbl ∧ Cond.initialized yX1_carry.cls ∈ lw_tbl ∧ (yX1_carry.cls ≠ "java/lang/invoke/MethodHandle" ∧ yX1_carry.cls ≠ "java/lang/invoke/VarHandle" ∧ (parseMethodDescriptor yX1_carry.desc).map (fun d => d.parameters.length) = some 2) ∧ 6 ≤ 21 ∧ plainName yX1_carry.cls = true ∧ RX1 = yX1_carry.cls := ⟨(by decide +kernel), (by decide +kernel), ⟨(by decide +kernel), (by decide +kernel), (by decide +kernel)⟩, (by decide +kernel), (by decide +kernel), rfl⟩
theorem mv_X1_carry : mV mX1_carry 2 1 := ⟨fx_X1_carry, (by decide +kernel : Cond.instanceMethod yX1_carry ∈ lw_tbl), (by decide +kernel : Cond.selects yX1_carry.cls yX1_carry yX1_carry ∈ lw_tbl), TX1, 5, rfl⟩
abbrev mX1_carryLetter : Mt := (RX1, yX1_carryLetter, cX1_carryLetter, 4, (some .boolean), 5)
theorem fx_X1_carryLetter : Cond.code yX1_carryLetter cX1_carryLetter 4 (some .boolean) ∈ lw_tbl ∧ Cond.initialized yX1_carryLetter.cls ∈ lw_tbl ∧ (yX1_carryLetter.cls ≠ "java/lang/invoke/MethodHandle" ∧ yX1_carryLetter.cls ≠ "java/lang/invoke/VarHandle" ∧ (parseMethodDescriptor yX1_carryLetter.desc).map (fun d => d.parameters.length) = some 3) ∧ 4 ≤ 21 ∧ plainName yX1_carryLetter.cls = true ∧ RX1 = yX1_carryLetter.cls := ⟨(by decide +kernel), (by decide +kernel), ⟨(by decide +kernel), (by decide +kernel), (by decide +kernel)⟩, (by decide +kernel), (by decide +kernel), rfl⟩
theorem mv_X1_carryLetter : mV mX1_carryLetter 3 1 := ⟨fx_X1_carryLetter, (by decide +kernel : Cond.instanceMethod yX1_carryLetter ∈ lw_tbl), (by decide +kernel : Cond.selects yX1_carryLetter.cls yX1_carryLetter yX1_carryLetter ∈ lw_tbl), TX1, 5, rfl⟩
abbrev mX1_takeUp : Mt := (RX1, yX1_takeUp, cX1_takeUp, 2, (some .boolean), 4)
theorem fx_X1_takeUp : Cond.code yX1_takeUp cX1_takeUp 2 (some .boolean) ∈ lw_tbl ∧ Cond.initialized yX1_takeUp.cls ∈ lw_tbl ∧ (yX1_takeUp.cls ≠ "java/lang/invoke/MethodHandle" ∧ yX1_takeUp.cls ≠ "java/lang/invoke/VarHandle" ∧ (parseMethodDescriptor yX1_takeUp.desc).map (fun d => d.parameters.length) = some 1) ∧ 2 ≤ 21 ∧ plainName yX1_takeUp.cls = true ∧ RX1 = yX1_takeUp.cls := ⟨(by decide +kernel), (by decide +kernel), ⟨(by decide +kernel), (by decide +kernel), (by decide +kernel)⟩, (by decide +kernel), (by decide +kernel), rfl⟩
theorem mv_X1_takeUp : mV mX1_takeUp 1 1 := ⟨fx_X1_takeUp, (by decide +kernel : Cond.instanceMethod yX1_takeUp ∈ lw_tbl), (by decide +kernel : Cond.selects yX1_takeUp.cls yX1_takeUp yX1_takeUp ∈ lw_tbl), TX1, 5, rfl⟩
abbrev mX2_init : Mt := (RX2, yX2_init, cX2_init, 1, none, 2)
theorem fx_X2_init : Cond.code yX2_init cX2_init 1 none ∈ lw_tbl ∧ Cond.initialized yX2_init.cls ∈ lw_tbl ∧ (yX2_init.cls ≠ "java/lang/invoke/MethodHandle" ∧ yX2_init.cls ≠ "java/lang/invoke/VarHandle" ∧ (parseMethodDescriptor yX2_init.desc).map (fun d => d.parameters.length) = some 0) ∧ 1 ≤ 21 ∧ plainName yX2_init.cls = true ∧ RX2 = yX2_init.cls := ⟨(by decide +kernel), (by decide +kernel), ⟨(by decide +kernel), (by decide +kernel), (by decide +kernel)⟩, (by decide +kernel), (by decide +kernel), rfl⟩
theorem mi_X2_init : mI mX2_init 0 := ⟨fx_X2_init, (by decide +kernel), rfl, rfl⟩
abbrev mX2_cell : Mt := (RX2, yX2_cell, cX2_cell, 2, (some .int), 1)
theorem fx_X2_cell : Cond.code yX2_cell cX2_cell 2 (some .int) ∈ lw_tbl ∧ Cond.initialized yX2_cell.cls ∈ lw_tbl ∧ (yX2_cell.cls ≠ "java/lang/invoke/MethodHandle" ∧ yX2_cell.cls ≠ "java/lang/invoke/VarHandle" ∧ (parseMethodDescriptor yX2_cell.desc).map (fun d => d.parameters.length) = some 2) ∧ 2 ≤ 21 ∧ plainName yX2_cell.cls = true ∧ RX2 = yX2_cell.cls := ⟨(by decide +kernel), (by decide +kernel), ⟨(by decide +kernel), (by decide +kernel), (by decide +kernel)⟩, (by decide +kernel), (by decide +kernel), rfl⟩
theorem ms_X2_cell : mS mX2_cell 2 := ⟨fx_X2_cell, (by decide +kernel)⟩
abbrev mX2_longest : Mt := (RX2, yX2_longest, cX2_longest, 5, (some .int), 3)
theorem fx_X2_longest : Cond.code yX2_longest cX2_longest 5 (some .int) ∈ lw_tbl ∧ Cond.initialized yX2_longest.cls ∈ lw_tbl ∧ (yX2_longest.cls ≠ "java/lang/invoke/MethodHandle" ∧ yX2_longest.cls ≠ "java/lang/invoke/VarHandle" ∧ (parseMethodDescriptor yX2_longest.desc).map (fun d => d.parameters.length) = some 2) ∧ 5 ≤ 21 ∧ plainName yX2_longest.cls = true ∧ RX2 = yX2_longest.cls := ⟨(by decide +kernel), (by decide +kernel), ⟨(by decide +kernel), (by decide +kernel), (by decide +kernel)⟩, (by decide +kernel), (by decide +kernel), rfl⟩
theorem mv_X2_longest : mV mX2_longest 2 2 := ⟨fx_X2_longest, (by decide +kernel : Cond.instanceMethod yX2_longest ∈ lw_tbl), (by decide +kernel : Cond.selects yX2_longest.cls yX2_longest yX2_longest ∈ lw_tbl), TX2, 3, rfl⟩
abbrev mX2_longestFrom : Mt := (RX2, yX2_longestFrom, cX2_longestFrom, 5, (some .int), 2)
theorem fx_X2_longestFrom : Cond.code yX2_longestFrom cX2_longestFrom 5 (some .int) ∈ lw_tbl ∧ Cond.initialized yX2_longestFrom.cls ∈ lw_tbl ∧ (yX2_longestFrom.cls ≠ "java/lang/invoke/MethodHandle" ∧ yX2_longestFrom.cls ≠ "java/lang/invoke/VarHandle" ∧ (parseMethodDescriptor yX2_longestFrom.desc).map (fun d => d.parameters.length) = some 4) ∧ 5 ≤ 21 ∧ plainName yX2_longestFrom.cls = true ∧ RX2 = yX2_longestFrom.cls := ⟨(by decide +kernel), (by decide +kernel), ⟨(by decide +kernel), (by decide +kernel), (by decide +kernel)⟩, (by decide +kernel), (by decide +kernel), rfl⟩
theorem mv_X2_longestFrom : mV mX2_longestFrom 4 2 := ⟨fx_X2_longestFrom, (by decide +kernel : Cond.instanceMethod yX2_longestFrom ∈ lw_tbl), (by decide +kernel : Cond.selects yX2_longestFrom.cls yX2_longestFrom yX2_longestFrom ∈ lw_tbl), TX2, 3, rfl⟩
abbrev mX2_goesOn : Mt := (RX2, yX2_goesOn, cX2_goesOn, 6, (some .boolean), 2)
theorem fx_X2_goesOn : Cond.code yX2_goesOn cX2_goesOn 6 (some .boolean) ∈ lw_tbl ∧ Cond.initialized yX2_goesOn.cls ∈ lw_tbl ∧ (yX2_goesOn.cls ≠ "java/lang/invoke/MethodHandle" ∧ yX2_goesOn.cls ≠ "java/lang/invoke/VarHandle" ∧ (parseMethodDescriptor yX2_goesOn.desc).map (fun d => d.parameters.length) = some 5) ∧ 6 ≤ 21 ∧ plainName yX2_goesOn.cls = true ∧ RX2 = yX2_goesOn.cls := ⟨(by decide +kernel), (by decide +kernel), ⟨(by decide +kernel), (by decide +kernel), (by decide +kernel)⟩, (by decide +kernel), (by decide +kernel), rfl⟩
theorem mv_X2_goesOn : mV mX2_goesOn 5 2 := ⟨fx_X2_goesOn, (by decide +kernel : Cond.instanceMethod yX2_goesOn ∈ lw_tbl), (by decide +kernel : Cond.selects yX2_goesOn.cls yX2_goesOn yX2_goesOn ∈ lw_tbl), TX2, 3, rfl⟩
abbrev mX2_firstLongest : Mt := (RX2, yX2_firstLongest, cX2_firstLongest, 8, (some (.object "LostLetters$Row")), 4)
theorem fx_X2_firstLongest : Cond.code yX2_firstLongest cX2_firstLongest 8 (some (.object "LostLetters$Row")) ∈ lw_tbl ∧ Cond.initialized yX2_firstLongest.cls ∈ lw_tbl ∧ (yX2_firstLongest.cls ≠ "java/lang/invoke/MethodHandle" ∧ yX2_firstLongest.cls ≠ "java/lang/invoke/VarHandle" ∧ (parseMethodDescriptor yX2_firstLongest.desc).map (fun d => d.parameters.length) = some 3) ∧ 8 ≤ 21 ∧ plainName yX2_firstLongest.cls = true ∧ RX2 = yX2_firstLongest.cls := ⟨(by decide +kernel), (by decide +kernel), ⟨(by decide +kernel), (by decide +kernel), (by decide +kernel)⟩, (by decide +kernel), (by decide +kernel), rfl⟩
theorem mv_X2_firstLongest : mV mX2_firstLongest 3 2 := ⟨fx_X2_firstLongest, (by decide +kernel : Cond.instanceMethod yX2_firstLongest ∈ lw_tbl), (by decide +kernel : Cond.selects yX2_firstLongest.cls yX2_firstLongest yX2_firstLongest ∈ lw_tbl), TX2, 3, rfl⟩
abbrev mX2_howManyLongest : Mt := (RX2, yX2_howManyLongest, cX2_howManyLongest, 6, (some .long), 4)
theorem fx_X2_howManyLongest : Cond.code yX2_howManyLongest cX2_howManyLongest 6 (some .long) ∈ lw_tbl ∧ Cond.initialized yX2_howManyLongest.cls ∈ lw_tbl ∧ (yX2_howManyLongest.cls ≠ "java/lang/invoke/MethodHandle" ∧ yX2_howManyLongest.cls ≠ "java/lang/invoke/VarHandle" ∧ (parseMethodDescriptor yX2_howManyLongest.desc).map (fun d => d.parameters.length) = some 3) ∧ 6 ≤ 21 ∧ plainName yX2_howManyLongest.cls = true ∧ RX2 = yX2_howManyLongest.cls := ⟨(by decide +kernel), (by decide +kernel), ⟨(by decide +kernel), (by decide +kernel), (by decide +kernel)⟩, (by decide +kernel), (by decide +kernel), rfl⟩
theorem mv_X2_howManyLongest : mV mX2_howManyLongest 3 2 := ⟨fx_X2_howManyLongest, (by decide +kernel : Cond.instanceMethod yX2_howManyLongest ∈ lw_tbl), (by decide +kernel : Cond.selects yX2_howManyLongest.cls yX2_howManyLongest yX2_howManyLongest ∈ lw_tbl), TX2, 3, rfl⟩
abbrev mX2_howManyFrom : Mt := (RX2, yX2_howManyFrom, cX2_howManyFrom, 12, (some .long), 3)
theorem fx_X2_howManyFrom : Cond.code yX2_howManyFrom cX2_howManyFrom 12 (some .long) ∈ lw_tbl ∧ Cond.initialized yX2_howManyFrom.cls ∈ lw_tbl ∧ (yX2_howManyFrom.cls ≠ "java/lang/invoke/MethodHandle" ∧ yX2_howManyFrom.cls ≠ "java/lang/invoke/VarHandle" ∧ (parseMethodDescriptor yX2_howManyFrom.desc).map (fun d => d.parameters.length) = some 5) ∧ 12 ≤ 21 ∧ plainName yX2_howManyFrom.cls = true ∧ RX2 = yX2_howManyFrom.cls := ⟨(by decide +kernel), (by decide +kernel), ⟨(by decide +kernel), (by decide +kernel), (by decide +kernel)⟩, (by decide +kernel), (by decide +kernel), rfl⟩
theorem mv_X2_howManyFrom : mV mX2_howManyFrom 5 2 := ⟨fx_X2_howManyFrom, (by decide +kernel : Cond.instanceMethod yX2_howManyFrom ∈ lw_tbl), (by decide +kernel : Cond.selects yX2_howManyFrom.cls yX2_howManyFrom yX2_howManyFrom ∈ lw_tbl), TX2, 3, rfl⟩
abbrev mX2_edits : Mt := (RX2, yX2_edits, cX2_edits, 5, (some .int), 3)
theorem fx_X2_edits : Cond.code yX2_edits cX2_edits 5 (some .int) ∈ lw_tbl ∧ Cond.initialized yX2_edits.cls ∈ lw_tbl ∧ (yX2_edits.cls ≠ "java/lang/invoke/MethodHandle" ∧ yX2_edits.cls ≠ "java/lang/invoke/VarHandle" ∧ (parseMethodDescriptor yX2_edits.desc).map (fun d => d.parameters.length) = some 2) ∧ 5 ≤ 21 ∧ plainName yX2_edits.cls = true ∧ RX2 = yX2_edits.cls := ⟨(by decide +kernel), (by decide +kernel), ⟨(by decide +kernel), (by decide +kernel), (by decide +kernel)⟩, (by decide +kernel), (by decide +kernel), rfl⟩
theorem mv_X2_edits : mV mX2_edits 2 2 := ⟨fx_X2_edits, (by decide +kernel : Cond.instanceMethod yX2_edits ∈ lw_tbl), (by decide +kernel : Cond.selects yX2_edits.cls yX2_edits yX2_edits ∈ lw_tbl), TX2, 3, rfl⟩
abbrev mX2_editsFrom : Mt := (RX2, yX2_editsFrom, cX2_editsFrom, 6, (some .int), 2)
theorem fx_X2_editsFrom : Cond.code yX2_editsFrom cX2_editsFrom 6 (some .int) ∈ lw_tbl ∧ Cond.initialized yX2_editsFrom.cls ∈ lw_tbl ∧ (yX2_editsFrom.cls ≠ "java/lang/invoke/MethodHandle" ∧ yX2_editsFrom.cls ≠ "java/lang/invoke/VarHandle" ∧ (parseMethodDescriptor yX2_editsFrom.desc).map (fun d => d.parameters.length) = some 4) ∧ 6 ≤ 21 ∧ plainName yX2_editsFrom.cls = true ∧ RX2 = yX2_editsFrom.cls := ⟨(by decide +kernel), (by decide +kernel), ⟨(by decide +kernel), (by decide +kernel), (by decide +kernel)⟩, (by decide +kernel), (by decide +kernel), rfl⟩
theorem mv_X2_editsFrom : mV mX2_editsFrom 4 2 := ⟨fx_X2_editsFrom, (by decide +kernel : Cond.instanceMethod yX2_editsFrom ∈ lw_tbl), (by decide +kernel : Cond.selects yX2_editsFrom.cls yX2_editsFrom yX2_editsFrom ∈ lw_tbl), TX2, 3, rfl⟩
abbrev mX3_init : Mt := (RX3, yX3_init, cX3_init, 1, none, 1)
theorem fx_X3_init : Cond.code yX3_init cX3_init 1 none ∈ lw_tbl ∧ Cond.initialized yX3_init.cls ∈ lw_tbl ∧ (yX3_init.cls ≠ "java/lang/invoke/MethodHandle" ∧ yX3_init.cls ≠ "java/lang/invoke/VarHandle" ∧ (parseMethodDescriptor yX3_init.desc).map (fun d => d.parameters.length) = some 0) ∧ 1 ≤ 21 ∧ plainName yX3_init.cls = true ∧ RX3 = yX3_init.cls := ⟨(by decide +kernel), (by decide +kernel), ⟨(by decide +kernel), (by decide +kernel), (by decide +kernel)⟩, (by decide +kernel), (by decide +kernel), rfl⟩
theorem mi_X3_init : mI mX3_init 0 := ⟨fx_X3_init, (by decide +kernel), rfl, rfl⟩
abbrev mX3_howOften : Mt := (RX3, yX3_howOften, cX3_howOften, 6, (some .long), 2)
theorem fx_X3_howOften : Cond.code yX3_howOften cX3_howOften 6 (some .long) ∈ lw_tbl ∧ Cond.initialized yX3_howOften.cls ∈ lw_tbl ∧ (yX3_howOften.cls ≠ "java/lang/invoke/MethodHandle" ∧ yX3_howOften.cls ≠ "java/lang/invoke/VarHandle" ∧ (parseMethodDescriptor yX3_howOften.desc).map (fun d => d.parameters.length) = some 2) ∧ 6 ≤ 21 ∧ plainName yX3_howOften.cls = true ∧ RX3 = yX3_howOften.cls := ⟨(by decide +kernel), (by decide +kernel), ⟨(by decide +kernel), (by decide +kernel), (by decide +kernel)⟩, (by decide +kernel), (by decide +kernel), rfl⟩
theorem mv_X3_howOften : mV mX3_howOften 2 3 := ⟨fx_X3_howOften, (by decide +kernel : Cond.instanceMethod yX3_howOften ∈ lw_tbl), (by decide +kernel : Cond.selects yX3_howOften.cls yX3_howOften yX3_howOften ∈ lw_tbl), TX3, 2, rfl⟩
abbrev mX3_byLosing : Mt := (RX3, yX3_byLosing, cX3_byLosing, 6, (some .long), 4)
theorem fx_X3_byLosing : Cond.code yX3_byLosing cX3_byLosing 6 (some .long) ∈ lw_tbl ∧ Cond.initialized yX3_byLosing.cls ∈ lw_tbl ∧ (yX3_byLosing.cls ≠ "java/lang/invoke/MethodHandle" ∧ yX3_byLosing.cls ≠ "java/lang/invoke/VarHandle" ∧ (parseMethodDescriptor yX3_byLosing.desc).map (fun d => d.parameters.length) = some 3) ∧ 6 ≤ 21 ∧ plainName yX3_byLosing.cls = true ∧ RX3 = yX3_byLosing.cls := ⟨(by decide +kernel), (by decide +kernel), ⟨(by decide +kernel), (by decide +kernel), (by decide +kernel)⟩, (by decide +kernel), (by decide +kernel), rfl⟩
theorem mv_X3_byLosing : mV mX3_byLosing 3 3 := ⟨fx_X3_byLosing, (by decide +kernel : Cond.instanceMethod yX3_byLosing ∈ lw_tbl), (by decide +kernel : Cond.selects yX3_byLosing.cls yX3_byLosing yX3_byLosing ∈ lw_tbl), TX3, 2, rfl⟩
abbrev mX3_leftFrom : Mt := (RX3, yX3_leftFrom, cX3_leftFrom, 9, (some .long), 3)
theorem fx_X3_leftFrom : Cond.code yX3_leftFrom cX3_leftFrom 9 (some .long) ∈ lw_tbl ∧ Cond.initialized yX3_leftFrom.cls ∈ lw_tbl ∧ (yX3_leftFrom.cls ≠ "java/lang/invoke/MethodHandle" ∧ yX3_leftFrom.cls ≠ "java/lang/invoke/VarHandle" ∧ (parseMethodDescriptor yX3_leftFrom.desc).map (fun d => d.parameters.length) = some 4) ∧ 9 ≤ 21 ∧ plainName yX3_leftFrom.cls = true ∧ RX3 = yX3_leftFrom.cls := ⟨(by decide +kernel), (by decide +kernel), ⟨(by decide +kernel), (by decide +kernel), (by decide +kernel)⟩, (by decide +kernel), (by decide +kernel), rfl⟩
theorem mv_X3_leftFrom : mV mX3_leftFrom 4 3 := ⟨fx_X3_leftFrom, (by decide +kernel : Cond.instanceMethod yX3_leftFrom ∈ lw_tbl), (by decide +kernel : Cond.selects yX3_leftFrom.cls yX3_leftFrom yX3_leftFrom ∈ lw_tbl), TX3, 2, rfl⟩
abbrev mX3_byGaining : Mt := (RX3, yX3_byGaining, cX3_byGaining, 12, (some .long), 1)
theorem fx_X3_byGaining : Cond.code yX3_byGaining cX3_byGaining 12 (some .long) ∈ lw_tbl ∧ Cond.initialized yX3_byGaining.cls ∈ lw_tbl ∧ (yX3_byGaining.cls ≠ "java/lang/invoke/MethodHandle" ∧ yX3_byGaining.cls ≠ "java/lang/invoke/VarHandle" ∧ (parseMethodDescriptor yX3_byGaining.desc).map (fun d => d.parameters.length) = some 3) ∧ 12 ≤ 21 ∧ plainName yX3_byGaining.cls = true ∧ RX3 = yX3_byGaining.cls := ⟨(by decide +kernel), (by decide +kernel), ⟨(by decide +kernel), (by decide +kernel), (by decide +kernel)⟩, (by decide +kernel), (by decide +kernel), rfl⟩
theorem mv_X3_byGaining : mV mX3_byGaining 3 3 := ⟨fx_X3_byGaining, (by decide +kernel : Cond.instanceMethod yX3_byGaining ∈ lw_tbl), (by decide +kernel : Cond.selects yX3_byGaining.cls yX3_byGaining yX3_byGaining ∈ lw_tbl), TX3, 2, rfl⟩
abbrev mX4_init : Mt := (RX4, yX4_init, cX4_init, 1, none, 1)
theorem fx_X4_init : Cond.code yX4_init cX4_init 1 none ∈ lw_tbl ∧ Cond.initialized yX4_init.cls ∈ lw_tbl ∧ (yX4_init.cls ≠ "java/lang/invoke/MethodHandle" ∧ yX4_init.cls ≠ "java/lang/invoke/VarHandle" ∧ (parseMethodDescriptor yX4_init.desc).map (fun d => d.parameters.length) = some 0) ∧ 1 ≤ 21 ∧ plainName yX4_init.cls = true ∧ RX4 = yX4_init.cls := ⟨(by decide +kernel), (by decide +kernel), ⟨(by decide +kernel), (by decide +kernel), (by decide +kernel)⟩, (by decide +kernel), (by decide +kernel), rfl⟩
theorem mi_X4_init : mI mX4_init 0 := ⟨fx_X4_init, (by decide +kernel), rfl, rfl⟩
abbrev mX4_clear : Mt := (RX4, yX4_clear, cX4_clear, 1, none, 2)
theorem fx_X4_clear : Cond.code yX4_clear cX4_clear 1 none ∈ lw_tbl ∧ Cond.initialized yX4_clear.cls ∈ lw_tbl ∧ (yX4_clear.cls ≠ "java/lang/invoke/MethodHandle" ∧ yX4_clear.cls ≠ "java/lang/invoke/VarHandle" ∧ (parseMethodDescriptor yX4_clear.desc).map (fun d => d.parameters.length) = some 0) ∧ 1 ≤ 21 ∧ plainName yX4_clear.cls = true ∧ RX4 = yX4_clear.cls := ⟨(by decide +kernel), (by decide +kernel), ⟨(by decide +kernel), (by decide +kernel), (by decide +kernel)⟩, (by decide +kernel), (by decide +kernel), rfl⟩
theorem mv_X4_clear : mV mX4_clear 0 4 := ⟨fx_X4_clear, (by decide +kernel : Cond.instanceMethod yX4_clear ∈ lw_tbl), (by decide +kernel : Cond.selects yX4_clear.cls yX4_clear yX4_clear ∈ lw_tbl), TX4, 2, rfl⟩
abbrev mX4_put : Mt := (RX4, yX4_put, cX4_put, 4, none, 1)
theorem fx_X4_put : Cond.code yX4_put cX4_put 4 none ∈ lw_tbl ∧ Cond.initialized yX4_put.cls ∈ lw_tbl ∧ (yX4_put.cls ≠ "java/lang/invoke/MethodHandle" ∧ yX4_put.cls ≠ "java/lang/invoke/VarHandle" ∧ (parseMethodDescriptor yX4_put.desc).map (fun d => d.parameters.length) = some 2) ∧ 4 ≤ 21 ∧ plainName yX4_put.cls = true ∧ RX4 = yX4_put.cls := ⟨(by decide +kernel), (by decide +kernel), ⟨(by decide +kernel), (by decide +kernel), (by decide +kernel)⟩, (by decide +kernel), (by decide +kernel), rfl⟩
theorem mv_X4_put : mV mX4_put 2 4 := ⟨fx_X4_put, (by decide +kernel : Cond.instanceMethod yX4_put ∈ lw_tbl), (by decide +kernel : Cond.selects yX4_put.cls yX4_put yX4_put ∈ lw_tbl), TX4, 2, rfl⟩
abbrev mX4_become : Mt := (RX4, yX4_become, cX4_become, 2, none, 2)
theorem fx_X4_become : Cond.code yX4_become cX4_become 2 none ∈ lw_tbl ∧ Cond.initialized yX4_become.cls ∈ lw_tbl ∧ (yX4_become.cls ≠ "java/lang/invoke/MethodHandle" ∧ yX4_become.cls ≠ "java/lang/invoke/VarHandle" ∧ (parseMethodDescriptor yX4_become.desc).map (fun d => d.parameters.length) = some 1) ∧ 2 ≤ 21 ∧ plainName yX4_become.cls = true ∧ RX4 = yX4_become.cls := ⟨(by decide +kernel), (by decide +kernel), ⟨(by decide +kernel), (by decide +kernel), (by decide +kernel)⟩, (by decide +kernel), (by decide +kernel), rfl⟩
theorem mv_X4_become : mV mX4_become 1 4 := ⟨fx_X4_become, (by decide +kernel : Cond.instanceMethod yX4_become ∈ lw_tbl), (by decide +kernel : Cond.selects yX4_become.cls yX4_become yX4_become ∈ lw_tbl), TX4, 2, rfl⟩
abbrev mX4_isFull : Mt := (RX4, yX4_isFull, cX4_isFull, 1, (some .boolean), 1)
theorem fx_X4_isFull : Cond.code yX4_isFull cX4_isFull 1 (some .boolean) ∈ lw_tbl ∧ Cond.initialized yX4_isFull.cls ∈ lw_tbl ∧ (yX4_isFull.cls ≠ "java/lang/invoke/MethodHandle" ∧ yX4_isFull.cls ≠ "java/lang/invoke/VarHandle" ∧ (parseMethodDescriptor yX4_isFull.desc).map (fun d => d.parameters.length) = some 0) ∧ 1 ≤ 21 ∧ plainName yX4_isFull.cls = true ∧ RX4 = yX4_isFull.cls := ⟨(by decide +kernel), (by decide +kernel), ⟨(by decide +kernel), (by decide +kernel), (by decide +kernel)⟩, (by decide +kernel), (by decide +kernel), rfl⟩
theorem mv_X4_isFull : mV mX4_isFull 0 4 := ⟨fx_X4_isFull, (by decide +kernel : Cond.instanceMethod yX4_isFull ∈ lw_tbl), (by decide +kernel : Cond.selects yX4_isFull.cls yX4_isFull yX4_isFull ∈ lw_tbl), TX4, 2, rfl⟩
abbrev mX4_letter : Mt := (RX4, yX4_letter, cX4_letter, 2, (some .int), 1)
theorem fx_X4_letter : Cond.code yX4_letter cX4_letter 2 (some .int) ∈ lw_tbl ∧ Cond.initialized yX4_letter.cls ∈ lw_tbl ∧ (yX4_letter.cls ≠ "java/lang/invoke/MethodHandle" ∧ yX4_letter.cls ≠ "java/lang/invoke/VarHandle" ∧ (parseMethodDescriptor yX4_letter.desc).map (fun d => d.parameters.length) = some 1) ∧ 2 ≤ 21 ∧ plainName yX4_letter.cls = true ∧ RX4 = yX4_letter.cls := ⟨(by decide +kernel), (by decide +kernel), ⟨(by decide +kernel), (by decide +kernel), (by decide +kernel)⟩, (by decide +kernel), (by decide +kernel), rfl⟩
theorem mv_X4_letter : mV mX4_letter 1 4 := ⟨fx_X4_letter, (by decide +kernel : Cond.instanceMethod yX4_letter ∈ lw_tbl), (by decide +kernel : Cond.selects yX4_letter.cls yX4_letter yX4_letter ∈ lw_tbl), TX4, 2, rfl⟩
abbrev mX4_turn : Mt := (RX4, yX4_turn, cX4_turn, 3, none, 1)
theorem fx_X4_turn : Cond.code yX4_turn cX4_turn 3 none ∈ lw_tbl ∧ Cond.initialized yX4_turn.cls ∈ lw_tbl ∧ (yX4_turn.cls ≠ "java/lang/invoke/MethodHandle" ∧ yX4_turn.cls ≠ "java/lang/invoke/VarHandle" ∧ (parseMethodDescriptor yX4_turn.desc).map (fun d => d.parameters.length) = some 2) ∧ 3 ≤ 21 ∧ plainName yX4_turn.cls = true ∧ RX4 = yX4_turn.cls := ⟨(by decide +kernel), (by decide +kernel), ⟨(by decide +kernel), (by decide +kernel), (by decide +kernel)⟩, (by decide +kernel), (by decide +kernel), rfl⟩
theorem mv_X4_turn : mV mX4_turn 2 4 := ⟨fx_X4_turn, (by decide +kernel : Cond.instanceMethod yX4_turn ∈ lw_tbl), (by decide +kernel : Cond.selects yX4_turn.cls yX4_turn yX4_turn ∈ lw_tbl), TX4, 2, rfl⟩
abbrev mX4_lose : Mt := (RX4, yX4_lose, cX4_lose, 2, none, 2)
theorem fx_X4_lose : Cond.code yX4_lose cX4_lose 2 none ∈ lw_tbl ∧ Cond.initialized yX4_lose.cls ∈ lw_tbl ∧ (yX4_lose.cls ≠ "java/lang/invoke/MethodHandle" ∧ yX4_lose.cls ≠ "java/lang/invoke/VarHandle" ∧ (parseMethodDescriptor yX4_lose.desc).map (fun d => d.parameters.length) = some 1) ∧ 2 ≤ 21 ∧ plainName yX4_lose.cls = true ∧ RX4 = yX4_lose.cls := ⟨(by decide +kernel), (by decide +kernel), ⟨(by decide +kernel), (by decide +kernel), (by decide +kernel)⟩, (by decide +kernel), (by decide +kernel), rfl⟩
theorem mv_X4_lose : mV mX4_lose 1 4 := ⟨fx_X4_lose, (by decide +kernel : Cond.instanceMethod yX4_lose ∈ lw_tbl), (by decide +kernel : Cond.selects yX4_lose.cls yX4_lose yX4_lose ∈ lw_tbl), TX4, 2, rfl⟩
abbrev mX4_gain : Mt := (RX4, yX4_gain, cX4_gain, 3, none, 2)
theorem fx_X4_gain : Cond.code yX4_gain cX4_gain 3 none ∈ lw_tbl ∧ Cond.initialized yX4_gain.cls ∈ lw_tbl ∧ (yX4_gain.cls ≠ "java/lang/invoke/MethodHandle" ∧ yX4_gain.cls ≠ "java/lang/invoke/VarHandle" ∧ (parseMethodDescriptor yX4_gain.desc).map (fun d => d.parameters.length) = some 2) ∧ 3 ≤ 21 ∧ plainName yX4_gain.cls = true ∧ RX4 = yX4_gain.cls := ⟨(by decide +kernel), (by decide +kernel), ⟨(by decide +kernel), (by decide +kernel), (by decide +kernel)⟩, (by decide +kernel), (by decide +kernel), rfl⟩
theorem mv_X4_gain : mV mX4_gain 2 4 := ⟨fx_X4_gain, (by decide +kernel : Cond.instanceMethod yX4_gain ∈ lw_tbl), (by decide +kernel : Cond.selects yX4_gain.cls yX4_gain yX4_gain ∈ lw_tbl), TX4, 2, rfl⟩
abbrev mX4_append : Mt := (RX4, yX4_append, cX4_append, 2, none, 3)
theorem fx_X4_append : Cond.code yX4_append cX4_append 2 none ∈ lw_tbl ∧ Cond.initialized yX4_append.cls ∈ lw_tbl ∧ (yX4_append.cls ≠ "java/lang/invoke/MethodHandle" ∧ yX4_append.cls ≠ "java/lang/invoke/VarHandle" ∧ (parseMethodDescriptor yX4_append.desc).map (fun d => d.parameters.length) = some 1) ∧ 2 ≤ 21 ∧ plainName yX4_append.cls = true ∧ RX4 = yX4_append.cls := ⟨(by decide +kernel), (by decide +kernel), ⟨(by decide +kernel), (by decide +kernel), (by decide +kernel)⟩, (by decide +kernel), (by decide +kernel), rfl⟩
theorem mv_X4_append : mV mX4_append 1 4 := ⟨fx_X4_append, (by decide +kernel : Cond.instanceMethod yX4_append ∈ lw_tbl), (by decide +kernel : Cond.selects yX4_append.cls yX4_append yX4_append ∈ lw_tbl), TX4, 2, rfl⟩
abbrev mX4_ahead : Mt := (RX4, yX4_ahead, cX4_ahead, 2, (some .long), 1)
theorem fx_X4_ahead : Cond.code yX4_ahead cX4_ahead 2 (some .long) ∈ lw_tbl ∧ Cond.initialized yX4_ahead.cls ∈ lw_tbl ∧ (yX4_ahead.cls ≠ "java/lang/invoke/MethodHandle" ∧ yX4_ahead.cls ≠ "java/lang/invoke/VarHandle" ∧ (parseMethodDescriptor yX4_ahead.desc).map (fun d => d.parameters.length) = some 1) ∧ 2 ≤ 21 ∧ plainName yX4_ahead.cls = true ∧ RX4 = yX4_ahead.cls := ⟨(by decide +kernel), (by decide +kernel), ⟨(by decide +kernel), (by decide +kernel), (by decide +kernel)⟩, (by decide +kernel), (by decide +kernel), rfl⟩
theorem mv_X4_ahead : mV mX4_ahead 1 4 := ⟨fx_X4_ahead, (by decide +kernel : Cond.instanceMethod yX4_ahead ∈ lw_tbl), (by decide +kernel : Cond.selects yX4_ahead.cls yX4_ahead yX4_ahead ∈ lw_tbl), TX4, 2, rfl⟩
abbrev mX4_next : Mt := (RX4, yX4_next, cX4_next, 4, (some .int), 2)
theorem fx_X4_next : Cond.code yX4_next cX4_next 4 (some .int) ∈ lw_tbl ∧ Cond.initialized yX4_next.cls ∈ lw_tbl ∧ (yX4_next.cls ≠ "java/lang/invoke/MethodHandle" ∧ yX4_next.cls ≠ "java/lang/invoke/VarHandle" ∧ (parseMethodDescriptor yX4_next.desc).map (fun d => d.parameters.length) = some 2) ∧ 4 ≤ 21 ∧ plainName yX4_next.cls = true ∧ RX4 = yX4_next.cls := ⟨(by decide +kernel), (by decide +kernel), ⟨(by decide +kernel), (by decide +kernel), (by decide +kernel)⟩, (by decide +kernel), (by decide +kernel), rfl⟩
theorem mv_X4_next : mV mX4_next 2 4 := ⟨fx_X4_next, (by decide +kernel : Cond.instanceMethod yX4_next ∈ lw_tbl), (by decide +kernel : Cond.selects yX4_next.cls yX4_next yX4_next ∈ lw_tbl), TX4, 2, rfl⟩
abbrev mX5_init : Mt := (RX5, yX5_init, cX5_init, 2, none, 2)
theorem fx_X5_init : Cond.code yX5_init cX5_init 2 none ∈ lw_tbl ∧ Cond.initialized yX5_init.cls ∈ lw_tbl ∧ (yX5_init.cls ≠ "java/lang/invoke/MethodHandle" ∧ yX5_init.cls ≠ "java/lang/invoke/VarHandle" ∧ (parseMethodDescriptor yX5_init.desc).map (fun d => d.parameters.length) = some 0) ∧ 2 ≤ 21 ∧ plainName yX5_init.cls = true ∧ RX5 = yX5_init.cls := ⟨(by decide +kernel), (by decide +kernel), ⟨(by decide +kernel), (by decide +kernel), (by decide +kernel)⟩, (by decide +kernel), (by decide +kernel), rfl⟩
theorem mi_X5_init : mI mX5_init 0 := ⟨fx_X5_init, (by decide +kernel), rfl, rfl⟩
abbrev mX5_keep : Mt := (RX5, yX5_keep, cX5_keep, 2, none, 3)
theorem fx_X5_keep : Cond.code yX5_keep cX5_keep 2 none ∈ lw_tbl ∧ Cond.initialized yX5_keep.cls ∈ lw_tbl ∧ (yX5_keep.cls ≠ "java/lang/invoke/MethodHandle" ∧ yX5_keep.cls ≠ "java/lang/invoke/VarHandle" ∧ (parseMethodDescriptor yX5_keep.desc).map (fun d => d.parameters.length) = some 1) ∧ 2 ≤ 21 ∧ plainName yX5_keep.cls = true ∧ RX5 = yX5_keep.cls := ⟨(by decide +kernel), (by decide +kernel), ⟨(by decide +kernel), (by decide +kernel), (by decide +kernel)⟩, (by decide +kernel), (by decide +kernel), rfl⟩
theorem mv_X5_keep : mV mX5_keep 1 5 := ⟨fx_X5_keep, (by decide +kernel : Cond.instanceMethod yX5_keep ∈ lw_tbl), (by decide +kernel : Cond.selects yX5_keep.cls yX5_keep yX5_keep ∈ lw_tbl), TX5, 9, rfl⟩
abbrev mX5_forget : Mt := (RX5, yX5_forget, cX5_forget, 1, none, 1)
theorem fx_X5_forget : Cond.code yX5_forget cX5_forget 1 none ∈ lw_tbl ∧ Cond.initialized yX5_forget.cls ∈ lw_tbl ∧ (yX5_forget.cls ≠ "java/lang/invoke/MethodHandle" ∧ yX5_forget.cls ≠ "java/lang/invoke/VarHandle" ∧ (parseMethodDescriptor yX5_forget.desc).map (fun d => d.parameters.length) = some 0) ∧ 1 ≤ 21 ∧ plainName yX5_forget.cls = true ∧ RX5 = yX5_forget.cls := ⟨(by decide +kernel), (by decide +kernel), ⟨(by decide +kernel), (by decide +kernel), (by decide +kernel)⟩, (by decide +kernel), (by decide +kernel), rfl⟩
theorem mv_X5_forget : mV mX5_forget 0 5 := ⟨fx_X5_forget, (by decide +kernel : Cond.instanceMethod yX5_forget ∈ lw_tbl), (by decide +kernel : Cond.selects yX5_forget.cls yX5_forget yX5_forget ∈ lw_tbl), TX5, 9, rfl⟩
abbrev mX5_search : Mt := (RX5, yX5_search, cX5_search, 4, (some .int), 18)
theorem fx_X5_search : Cond.code yX5_search cX5_search 4 (some .int) ∈ lw_tbl ∧ Cond.initialized yX5_search.cls ∈ lw_tbl ∧ (yX5_search.cls ≠ "java/lang/invoke/MethodHandle" ∧ yX5_search.cls ≠ "java/lang/invoke/VarHandle" ∧ (parseMethodDescriptor yX5_search.desc).map (fun d => d.parameters.length) = some 2) ∧ 4 ≤ 21 ∧ plainName yX5_search.cls = true ∧ RX5 = yX5_search.cls := ⟨(by decide +kernel), (by decide +kernel), ⟨(by decide +kernel), (by decide +kernel), (by decide +kernel)⟩, (by decide +kernel), (by decide +kernel), rfl⟩
theorem mv_X5_search : mV mX5_search 2 5 := ⟨fx_X5_search, (by decide +kernel : Cond.instanceMethod yX5_search ∈ lw_tbl), (by decide +kernel : Cond.selects yX5_search.cls yX5_search yX5_search ∈ lw_tbl), TX5, 9, rfl⟩
abbrev mX5_cell : Mt := (RX5, yX5_cell, cX5_cell, 3, (some .int), 1)
theorem fx_X5_cell : Cond.code yX5_cell cX5_cell 3 (some .int) ∈ lw_tbl ∧ Cond.initialized yX5_cell.cls ∈ lw_tbl ∧ (yX5_cell.cls ≠ "java/lang/invoke/MethodHandle" ∧ yX5_cell.cls ≠ "java/lang/invoke/VarHandle" ∧ (parseMethodDescriptor yX5_cell.desc).map (fun d => d.parameters.length) = some 3) ∧ 3 ≤ 21 ∧ plainName yX5_cell.cls = true ∧ RX5 = yX5_cell.cls := ⟨(by decide +kernel), (by decide +kernel), ⟨(by decide +kernel), (by decide +kernel), (by decide +kernel)⟩, (by decide +kernel), (by decide +kernel), rfl⟩
theorem ms_X5_cell : mS mX5_cell 3 := ⟨fx_X5_cell, (by decide +kernel)⟩
abbrev mX5_explore (k : Nat) : Mt := (RX5, yX5_explore, cX5_explore, 3, none, 4 + k)
theorem fx_X5_explore : Cond.code yX5_explore cX5_explore 3 none ∈ lw_tbl ∧ Cond.initialized yX5_explore.cls ∈ lw_tbl ∧ (yX5_explore.cls ≠ "java/lang/invoke/MethodHandle" ∧ yX5_explore.cls ≠ "java/lang/invoke/VarHandle" ∧ (parseMethodDescriptor yX5_explore.desc).map (fun d => d.parameters.length) = some 1) ∧ 3 ≤ 21 ∧ plainName yX5_explore.cls = true ∧ RX5 = yX5_explore.cls := ⟨(by decide +kernel), (by decide +kernel), ⟨(by decide +kernel), (by decide +kernel), (by decide +kernel)⟩, (by decide +kernel), (by decide +kernel), rfl⟩
theorem mv_X5_explore (k : Nat) : mV (mX5_explore k) 1 5 := ⟨fx_X5_explore, (by decide +kernel : Cond.instanceMethod yX5_explore ∈ lw_tbl), (by decide +kernel : Cond.selects yX5_explore.cls yX5_explore yX5_explore ∈ lw_tbl), TX5, 9, rfl⟩
abbrev mX5_allFollow : Mt := (RX5, yX5_allFollow, cX5_allFollow, 4, (some .boolean), 3)
theorem fx_X5_allFollow : Cond.code yX5_allFollow cX5_allFollow 4 (some .boolean) ∈ lw_tbl ∧ Cond.initialized yX5_allFollow.cls ∈ lw_tbl ∧ (yX5_allFollow.cls ≠ "java/lang/invoke/MethodHandle" ∧ yX5_allFollow.cls ≠ "java/lang/invoke/VarHandle" ∧ (parseMethodDescriptor yX5_allFollow.desc).map (fun d => d.parameters.length) = some 2) ∧ 4 ≤ 21 ∧ plainName yX5_allFollow.cls = true ∧ RX5 = yX5_allFollow.cls := ⟨(by decide +kernel), (by decide +kernel), ⟨(by decide +kernel), (by decide +kernel), (by decide +kernel)⟩, (by decide +kernel), (by decide +kernel), rfl⟩
theorem mv_X5_allFollow : mV mX5_allFollow 2 5 := ⟨fx_X5_allFollow, (by decide +kernel : Cond.instanceMethod yX5_allFollow ∈ lw_tbl), (by decide +kernel : Cond.selects yX5_allFollow.cls yX5_allFollow yX5_allFollow ∈ lw_tbl), TX5, 9, rfl⟩
abbrev mX5_follows : Mt := (RX5, yX5_follows, cX5_follows, 11, (some .boolean), 2)
theorem fx_X5_follows : Cond.code yX5_follows cX5_follows 11 (some .boolean) ∈ lw_tbl ∧ Cond.initialized yX5_follows.cls ∈ lw_tbl ∧ (yX5_follows.cls ≠ "java/lang/invoke/MethodHandle" ∧ yX5_follows.cls ≠ "java/lang/invoke/VarHandle" ∧ (parseMethodDescriptor yX5_follows.desc).map (fun d => d.parameters.length) = some 3) ∧ 11 ≤ 21 ∧ plainName yX5_follows.cls = true ∧ RX5 = yX5_follows.cls := ⟨(by decide +kernel), (by decide +kernel), ⟨(by decide +kernel), (by decide +kernel), (by decide +kernel)⟩, (by decide +kernel), (by decide +kernel), rfl⟩
theorem mv_X5_follows : mV mX5_follows 3 5 := ⟨fx_X5_follows, (by decide +kernel : Cond.instanceMethod yX5_follows ∈ lw_tbl), (by decide +kernel : Cond.selects yX5_follows.cls yX5_follows yX5_follows ∈ lw_tbl), TX5, 9, rfl⟩
abbrev mX5_weigh : Mt := (RX5, yX5_weigh, cX5_weigh, 4, none, 3)
theorem fx_X5_weigh : Cond.code yX5_weigh cX5_weigh 4 none ∈ lw_tbl ∧ Cond.initialized yX5_weigh.cls ∈ lw_tbl ∧ (yX5_weigh.cls ≠ "java/lang/invoke/MethodHandle" ∧ yX5_weigh.cls ≠ "java/lang/invoke/VarHandle" ∧ (parseMethodDescriptor yX5_weigh.desc).map (fun d => d.parameters.length) = some 0) ∧ 4 ≤ 21 ∧ plainName yX5_weigh.cls = true ∧ RX5 = yX5_weigh.cls := ⟨(by decide +kernel), (by decide +kernel), ⟨(by decide +kernel), (by decide +kernel), (by decide +kernel)⟩, (by decide +kernel), (by decide +kernel), rfl⟩
theorem mv_X5_weigh : mV mX5_weigh 0 5 := ⟨fx_X5_weigh, (by decide +kernel : Cond.instanceMethod yX5_weigh ∈ lw_tbl), (by decide +kernel : Cond.selects yX5_weigh.cls yX5_weigh yX5_weigh ∈ lw_tbl), TX5, 9, rfl⟩
abbrev mL_law : Mt := (RL, yL_law, cL_law, 4, (some .boolean), 20)
theorem ml_L_9 : mLk RL 9 yX6_init := Or.inl (by decide +kernel)
theorem ml_L_12 : mLk RL 12 yX7_init := Or.inl (by decide +kernel)
theorem ml_L_13 : mLk RL 13 yX6_letters := Or.inl (by decide +kernel)
theorem ml_L_17 : mLk RL 17 yX7_letters := Or.inl (by decide +kernel)
theorem ml_L_20 : mLk RL 20 yX6_word := Or.inl (by decide +kernel)
theorem ml_L_24 : mLk RL 24 yX7_word := Or.inl (by decide +kernel)
theorem ml_L_25 : mLk RL 25 yX6_at := Or.inl (by decide +kernel)
theorem ml_L_29 : mLk RL 29 yX7_at := Or.inl (by decide +kernel)
theorem ml_L_30 : mLk RL 30 yX6_edit := Or.inl (by decide +kernel)
theorem ml_L_34 : mLk RL 34 yX7_edit := Or.inl (by decide +kernel)
theorem ml_L_35 : mLk RL 35 yX6_code := Or.inl (by decide +kernel)
theorem ml_L_39 : mLk RL 39 yX7_code := Or.inl (by decide +kernel)
theorem ml_L_40 : mLk RL 40 yX6_sum := Or.inl (by decide +kernel)
theorem ml_L_43 : mLk RL 43 yX7_sum := Or.inl (by decide +kernel)
theorem ml_L_44 : mLk RL 44 yX6_isOf := Or.inl (by decide +kernel)
theorem ml_L_47 : mLk RL 47 yX7_isOf := Or.inl (by decide +kernel)
theorem ml_L_48 : mLk RL 48 yX6_listed := Or.inl (by decide +kernel)
theorem ml_L_51 : mLk RL 51 yX7_listed := Or.inl (by decide +kernel)
theorem ml_L_52 : mLk RL 52 yX6_mend := Or.inl (by decide +kernel)
theorem ml_L_55 : mLk RL 55 yX7_mend := Or.inl (by decide +kernel)
theorem ml_L_56 : mLk RL 56 yX6_near := Or.inl (by decide +kernel)
theorem ml_L_59 : mLk RL 59 yX7_near := Or.inl (by decide +kernel)
theorem ml_L_60 : mLk RL 60 yX6_liesIn := Or.inl (by decide +kernel)
theorem ml_L_64 : mLk RL 64 yX7_liesIn := Or.inl (by decide +kernel)
theorem ml_L_65 : mLk RL 65 yX6_common := Or.inl (by decide +kernel)
theorem ml_L_69 : mLk RL 69 yX7_common := Or.inl (by decide +kernel)
theorem ml_L_70 : mLk RL 70 yX6_commons := Or.inl (by decide +kernel)
theorem ml_L_73 : mLk RL 73 yX7_commons := Or.inl (by decide +kernel)
theorem ml_L_74 : mLk RL 74 yX6_between := Or.inl (by decide +kernel)
theorem ml_L_77 : mLk RL 77 yX7_between := Or.inl (by decide +kernel)
theorem ml_L_78 : mLk RL 78 yX6_by := Or.inl (by decide +kernel)
theorem ml_L_82 : mLk RL 82 yX7_by := Or.inl (by decide +kernel)
theorem ml_L_83 : mLk RL 83 yX6_trace := Or.inl (by decide +kernel)
theorem ml_L_86 : mLk RL 86 yX7_trace := Or.inl (by decide +kernel)
theorem ml_L_87 : mLk RL 87 yX6_noTraces := Or.inl (by decide +kernel)
theorem ml_L_91 : mLk RL 91 yX7_noTraces := Or.inl (by decide +kernel)
theorem ml_L_92 : mLk RL 92 yX6_sources := Or.inl (by decide +kernel)
theorem ml_L_95 : mLk RL 95 yX7_sources := Or.inl (by decide +kernel)
theorem ml_L_96 : mLk RL 96 yX6_best := Or.inl (by decide +kernel)
theorem ml_L_99 : mLk RL 99 yX7_best := Or.inl (by decide +kernel)
theorem ml_L_100 : mLk RL 100 yX6_line := Or.inl (by decide +kernel)
theorem ml_L_103 : mLk RL 103 yX7_line := Or.inl (by decide +kernel)
theorem ml_L_104 : mLk RL 104 yX6_seed := Or.inl (by decide +kernel)
theorem ml_L_108 : mLk RL 108 yX7_seed := Or.inl (by decide +kernel)
theorem ml_L_109 : mLk RL 109 yX6_send := Or.inl (by decide +kernel)
theorem ml_L_112 : mLk RL 112 yX7_send := Or.inl (by decide +kernel)
theorem ml_L_113 : mLk RL 113 yX6_count := Or.inl (by decide +kernel)
theorem ml_L_116 : mLk RL 116 yX7_count := Or.inl (by decide +kernel)
theorem lo_X0 : Cond.methodLink RX0 3 objectInit ∈ lw_tbl := (by decide +kernel)
theorem ml_X0_11 : mLk RX0 11 yX4_init := Or.inr ⟨"LostLetters", (by decide +kernel)⟩
theorem ml_X0_44 : mLk RX0 44 yX0_makeRoom := Or.inl (by decide +kernel)
theorem ml_X0_47 : mLk RX0 47 yX0_countWays := Or.inl (by decide +kernel)
theorem lm_X0_50 : Cond.methodLink RX0 50 Lib.Math.min.name ∈ lw_tbl := (by decide +kernel)
theorem lm_X0_56 : Cond.methodLink RX0 56 Lib.Math.max.name ∈ lw_tbl := (by decide +kernel)
theorem ml_X0_59 : mLk RX0 59 yX0_countWaysBehind := Or.inl (by decide +kernel)
theorem ml_X0_63 : mLk RX0 63 yX0_waysByNext := Or.inl (by decide +kernel)
theorem ml_X0_70 : mLk RX0 70 yX0_cell := Or.inl (by decide +kernel)
theorem ml_X0_73 : mLk RX0 73 yX0_sumWith := Or.inl (by decide +kernel)
theorem ml_X0_76 : mLk RX0 76 yX0_waysToEnd := Or.inl (by decide +kernel)
theorem ml_X0_80 : mLk RX0 80 yX4_letter := Or.inr ⟨"LostLetters", (by decide +kernel)⟩
theorem ml_X0_84 : mLk RX0 84 yX0_sumOf := Or.inl (by decide +kernel)
theorem ml_X0_88 : mLk RX0 88 yX4_clear := Or.inr ⟨"LostLetters", (by decide +kernel)⟩
theorem ml_X0_91 : mLk RX0 91 yX4_append := Or.inr ⟨"LostLetters", (by decide +kernel)⟩
theorem ml_X0_95 : mLk RX0 95 yX0_neighboursByTurn := Or.inl (by decide +kernel)
theorem ml_X0_98 : mLk RX0 98 yX0_neighboursByGain := Or.inl (by decide +kernel)
theorem ml_X0_101 : mLk RX0 101 yX0_neighboursByLoss := Or.inl (by decide +kernel)
theorem ml_X0_104 : mLk RX0 104 yX4_become := Or.inr ⟨"LostLetters", (by decide +kernel)⟩
theorem ml_X0_108 : mLk RX0 108 yX4_turn := Or.inr ⟨"LostLetters", (by decide +kernel)⟩
theorem ml_X0_111 : mLk RX0 111 yX0_take := Or.inl (by decide +kernel)
theorem ml_X0_115 : mLk RX0 115 yX4_lose := Or.inr ⟨"LostLetters", (by decide +kernel)⟩
theorem ml_X0_118 : mLk RX0 118 yX4_gain := Or.inr ⟨"LostLetters", (by decide +kernel)⟩
theorem ml_X0_121 : mLk RX0 121 yX0_holds := Or.inl (by decide +kernel)
theorem lo_X1 : Cond.methodLink RX1 1 objectInit ∈ lw_tbl := (by decide +kernel)
theorem ml_X1_9 : mLk RX1 9 yX4_init := Or.inr ⟨"LostLetters", (by decide +kernel)⟩
theorem ml_X1_30 : mLk RX1 30 yX4_clear := Or.inr ⟨"LostLetters", (by decide +kernel)⟩
theorem ml_X1_42 : mLk RX1 42 yX4_letter := Or.inr ⟨"LostLetters", (by decide +kernel)⟩
theorem ml_X1_46 : mLk RX1 46 yX1_carryLetter := Or.inl (by decide +kernel)
theorem ml_X1_50 : mLk RX1 50 yX1_takeUp := Or.inl (by decide +kernel)
theorem ml_X1_54 : mLk RX1 54 yX4_isFull := Or.inr ⟨"LostLetters", (by decide +kernel)⟩
theorem ml_X1_58 : mLk RX1 58 yX4_append := Or.inr ⟨"LostLetters", (by decide +kernel)⟩
theorem lo_X2 : Cond.methodLink RX2 3 objectInit ∈ lw_tbl := (by decide +kernel)
theorem ml_X2_21 : mLk RX2 21 yX4_init := Or.inr ⟨"LostLetters", (by decide +kernel)⟩
theorem ml_X2_30 : mLk RX2 30 yX2_cell := Or.inl (by decide +kernel)
theorem ml_X2_34 : mLk RX2 34 yX2_longestFrom := Or.inl (by decide +kernel)
theorem ml_X2_38 : mLk RX2 38 yX4_letter := Or.inr ⟨"LostLetters", (by decide +kernel)⟩
theorem lm_X2_42 : Cond.methodLink RX2 42 Lib.Math.max.name ∈ lw_tbl := (by decide +kernel)
theorem ml_X2_47 : mLk RX2 47 yX4_clear := Or.inr ⟨"LostLetters", (by decide +kernel)⟩
theorem ml_X2_50 : mLk RX2 50 yX4_next := Or.inr ⟨"LostLetters", (by decide +kernel)⟩
theorem ml_X2_53 : mLk RX2 53 yX2_goesOn := Or.inl (by decide +kernel)
theorem ml_X2_57 : mLk RX2 57 yX4_append := Or.inr ⟨"LostLetters", (by decide +kernel)⟩
theorem ml_X2_61 : mLk RX2 61 yX2_howManyFrom := Or.inl (by decide +kernel)
theorem ml_X2_65 : mLk RX2 65 yX2_editsFrom := Or.inl (by decide +kernel)
theorem lm_X2_68 : Cond.methodLink RX2 68 Lib.Math.min.name ∈ lw_tbl := (by decide +kernel)
theorem lo_X3 : Cond.methodLink RX3 3 objectInit ∈ lw_tbl := (by decide +kernel)
theorem ml_X3_24 : mLk RX3 24 yX4_letter := Or.inr ⟨"LostLetters", (by decide +kernel)⟩
theorem ml_X3_28 : mLk RX3 28 yX3_leftFrom := Or.inl (by decide +kernel)
theorem ml_X3_32 : mLk RX3 32 yX4_next := Or.inr ⟨"LostLetters", (by decide +kernel)⟩
theorem lo_X4 : Cond.methodLink RX4 3 objectInit ∈ lw_tbl := (by decide +kernel)
theorem ml_X4_9 : mLk RX4 9 yX4_put := Or.inl (by decide +kernel)
theorem ml_X4_27 : mLk RX4 27 yX4_ahead := Or.inl (by decide +kernel)
theorem ml_X4_31 : mLk RX4 31 yX4_gain := Or.inl (by decide +kernel)
theorem ml_X4_35 : mLk RX4 35 yX4_letter := Or.inl (by decide +kernel)
theorem lo_X5 : Cond.methodLink RX5 3 objectInit ∈ lw_tbl := (by decide +kernel)
theorem ml_X5_17 : mLk RX5 17 yX4_init := Or.inr ⟨"LostLetters", (by decide +kernel)⟩
theorem ml_X5_33 : mLk RX5 33 yX4_become := Or.inr ⟨"LostLetters", (by decide +kernel)⟩
theorem ml_X5_50 : mLk RX5 50 yX4_put := Or.inr ⟨"LostLetters", (by decide +kernel)⟩
theorem ml_X5_55 : mLk RX5 55 yX5_cell := Or.inl (by decide +kernel)
theorem ml_X5_59 : mLk RX5 59 yX5_explore := Or.inl (by decide +kernel)
theorem ml_X5_63 : mLk RX5 63 yX5_weigh := Or.inl (by decide +kernel)
theorem ml_X5_66 : mLk RX5 66 yX5_allFollow := Or.inl (by decide +kernel)
theorem ml_X5_70 : mLk RX5 70 yX4_turn := Or.inr ⟨"LostLetters", (by decide +kernel)⟩
theorem ml_X5_74 : mLk RX5 74 yX5_follows := Or.inl (by decide +kernel)
theorem lm_X5_78 : Cond.methodLink RX5 78 Lib.Math.max.name ∈ lw_tbl := (by decide +kernel)
theorem lm_X5_84 : Cond.methodLink RX5 84 Lib.Math.min.name ∈ lw_tbl := (by decide +kernel)
theorem ml_X5_87 : mLk RX5 87 yX4_letter := Or.inr ⟨"LostLetters", (by decide +kernel)⟩
theorem lm_X5_93 : Cond.methodLink RX5 93 Lib.MathLoose.min_long.x ∈ lw_tbl := (by decide +kernel)
theorem lo_X6 : Cond.methodLink RX6 1 objectInit ∈ lw_tbl := (by decide +kernel)
theorem ml_X6_19 : mLk RX6 19 yX4_init := Or.inr ⟨"LostLetters", (by decide +kernel)⟩
theorem ml_X6_22 : mLk RX6 22 yX0_init := Or.inr ⟨"LostLetters", (by decide +kernel)⟩
theorem ml_X6_29 : mLk RX6 29 yX3_init := Or.inr ⟨"LostLetters", (by decide +kernel)⟩
theorem ml_X6_36 : mLk RX6 36 yX2_init := Or.inr ⟨"LostLetters", (by decide +kernel)⟩
theorem ml_X6_43 : mLk RX6 43 yX5_init := Or.inr ⟨"LostLetters", (by decide +kernel)⟩
theorem ml_X6_50 : mLk RX6 50 yX1_init := Or.inr ⟨"LostLetters", (by decide +kernel)⟩
theorem ml_X6_55 : mLk RX6 55 yX4_clear := Or.inr ⟨"LostLetters", (by decide +kernel)⟩
theorem ml_X6_58 : mLk RX6 58 yX0_forget := Or.inr ⟨"LostLetters", (by decide +kernel)⟩
theorem ml_X6_61 : mLk RX6 61 yX5_forget := Or.inr ⟨"LostLetters", (by decide +kernel)⟩
theorem ml_X6_62 : mLk RX6 62 yX6_isRegister := Or.inl (by decide +kernel)
theorem ml_X6_66 : mLk RX6 66 yX6_isRow := Or.inl (by decide +kernel)
theorem ml_X6_70 : mLk RX6 70 yX4_put := Or.inr ⟨"LostLetters", (by decide +kernel)⟩
theorem ml_X6_77 : mLk RX6 77 yX4_letter := Or.inr ⟨"LostLetters", (by decide +kernel)⟩
theorem ml_X6_81 : mLk RX6 81 yX6_isEdit := Or.inl (by decide +kernel)
theorem ml_X6_85 : mLk RX6 85 yX4_isFull := Or.inr ⟨"LostLetters", (by decide +kernel)⟩
theorem ml_X6_89 : mLk RX6 89 yX4_become := Or.inr ⟨"LostLetters", (by decide +kernel)⟩
theorem ml_X6_93 : mLk RX6 93 yX4_lose := Or.inr ⟨"LostLetters", (by decide +kernel)⟩
theorem ml_X6_97 : mLk RX6 97 yX4_gain := Or.inr ⟨"LostLetters", (by decide +kernel)⟩
theorem ml_X6_101 : mLk RX6 101 yX4_turn := Or.inr ⟨"LostLetters", (by decide +kernel)⟩
theorem ml_X6_104 : mLk RX6 104 yX6_isLetter := Or.inl (by decide +kernel)
theorem ml_X6_107 : mLk RX6 107 yX0_tell := Or.inr ⟨"LostLetters", (by decide +kernel)⟩
theorem ml_X6_112 : mLk RX6 112 yX0_stands := Or.inr ⟨"LostLetters", (by decide +kernel)⟩
theorem ml_X6_115 : mLk RX6 115 yX0_sumOf := Or.inr ⟨"LostLetters", (by decide +kernel)⟩
theorem ml_X6_119 : mLk RX6 119 yX0_holds := Or.inr ⟨"LostLetters", (by decide +kernel)⟩
theorem ml_X6_123 : mLk RX6 123 yX0_write := Or.inr ⟨"LostLetters", (by decide +kernel)⟩
theorem ml_X6_127 : mLk RX6 127 yX0_neighbours := Or.inr ⟨"LostLetters", (by decide +kernel)⟩
theorem ml_X6_136 : mLk RX6 136 yX3_howOften := Or.inr ⟨"LostLetters", (by decide +kernel)⟩
theorem ml_X6_140 : mLk RX6 140 yX2_longest := Or.inr ⟨"LostLetters", (by decide +kernel)⟩
theorem ml_X6_144 : mLk RX6 144 yX2_firstLongest := Or.inr ⟨"LostLetters", (by decide +kernel)⟩
theorem ml_X6_148 : mLk RX6 148 yX2_howManyLongest := Or.inr ⟨"LostLetters", (by decide +kernel)⟩
theorem ml_X6_152 : mLk RX6 152 yX6_isEither := Or.inl (by decide +kernel)
theorem ml_X6_155 : mLk RX6 155 yX2_edits := Or.inr ⟨"LostLetters", (by decide +kernel)⟩
theorem ml_X6_158 : mLk RX6 158 yX3_byLosing := Or.inr ⟨"LostLetters", (by decide +kernel)⟩
theorem ml_X6_162 : mLk RX6 162 yX3_byGaining := Or.inr ⟨"LostLetters", (by decide +kernel)⟩
theorem ml_X6_166 : mLk RX6 166 yX5_keep := Or.inr ⟨"LostLetters", (by decide +kernel)⟩
theorem ml_X6_169 : mLk RX6 169 yX6_isSourceLength := Or.inl (by decide +kernel)
theorem ml_X6_172 : mLk RX6 172 yX5_search := Or.inr ⟨"LostLetters", (by decide +kernel)⟩
theorem ml_X6_179 : mLk RX6 179 yX6_isChance := Or.inl (by decide +kernel)
theorem ml_X6_182 : mLk RX6 182 yX1_tell := Or.inr ⟨"LostLetters", (by decide +kernel)⟩
theorem ml_X6_189 : mLk RX6 189 yX1_carry := Or.inr ⟨"LostLetters", (by decide +kernel)⟩
theorem ml_X6_199 : mLk RX6 199 yX6_lettersOfAll := Or.inl (by decide +kernel)
theorem lo_X7 : Cond.methodLink RX7 1 objectInit ∈ lw_tbl := (by decide +kernel)
theorem ml_X7_39 : mLk RX7 39 yX7_in := Or.inl (by decide +kernel)
theorem ml_X7_53 : mLk RX7 53 yX7_isRegister := Or.inl (by decide +kernel)
theorem ml_X7_61 : mLk RX7 61 yX7_puts := Or.inl (by decide +kernel)
theorem ml_X7_65 : mLk RX7 65 yX7_edits := Or.inl (by decide +kernel)
theorem ml_X7_69 : mLk RX7 69 yX7_copies := Or.inl (by decide +kernel)
theorem ml_X7_72 : mLk RX7 72 yX7_sumOf := Or.inl (by decide +kernel)
theorem ml_X7_82 : mLk RX7 82 yX7_lettersOf := Or.inl (by decide +kernel)
theorem ml_X7_88 : mLk RX7 88 yX7_step := Or.inl (by decide +kernel)
theorem ml_X7_92 : mLk RX7 92 yX7_state := Or.inl (by decide +kernel)
theorem ml_X7_100 : mLk RX7 100 yX7_counts := Or.inl (by decide +kernel)
theorem ml_X7_103 : mLk RX7 103 yX7_codeSize := Or.inl (by decide +kernel)
theorem ml_X7_107 : mLk RX7 107 yX7_isCode := Or.inl (by decide +kernel)
theorem ml_X7_113 : mLk RX7 113 yX7_meets := Or.inl (by decide +kernel)
theorem ml_X7_116 : mLk RX7 116 yX7_looks := Or.inl (by decide +kernel)
theorem ml_X7_120 : mLk RX7 120 yX7_lies := Or.inl (by decide +kernel)
theorem ml_X7_126 : mLk RX7 126 yX7_longests := Or.inl (by decide +kernel)
theorem ml_X7_129 : mLk RX7 129 yX7_next := Or.inl (by decide +kernel)
theorem ml_X7_132 : mLk RX7 132 yX7_editsBetween := Or.inl (by decide +kernel)
theorem ml_X7_138 : mLk RX7 138 yX7_gained := Or.inl (by decide +kernel)
theorem ml_X7_141 : mLk RX7 141 yX7_parts := Or.inl (by decide +kernel)
theorem ml_X7_148 : mLk RX7 148 yX7_power := Or.inl (by decide +kernel)
theorem ml_X7_151 : mLk RX7 151 yX7_numbers := Or.inl (by decide +kernel)
theorem ml_X7_154 : mLk RX7 154 yX7_product := Or.inl (by decide +kernel)
theorem ml_X7_171 : mLk RX7 171 yX7_adds := Or.inl (by decide +kernel)
theorem lo_i : Cond.instanceMethod objectInit ∈ lw_tbl := (by decide +kernel)
theorem lo_c : Cond.code objectInit ⟨#[0xb1]⟩ 1 none ∈ lw_tbl := (by decide +kernel)
theorem la_I : Cond.arrayClass .int ∈ lw_tbl := (by decide +kernel)
theorem la_J : Cond.arrayClass .long ∈ lw_tbl := (by decide +kernel)
theorem fl_X0_12 : fLk RX0 12 0 0 := ⟨RX0, TX0, 10, rfl, (by decide +kernel), (Or.inl (by decide +kernel))⟩
theorem fp_X0_12 : fPf RX0 12 0 0 (.object "LostLetters$Row") := ⟨RX0, TX0, 10, rfl, (by decide +kernel), (by decide +kernel), rfl, rfl, (by decide +kernel)⟩
theorem fl_X0_18 : fLk RX0 18 0 1 := ⟨RX0, TX0, 10, rfl, (by decide +kernel), (Or.inl (by decide +kernel))⟩
theorem fp_X0_18 : fPf RX0 18 0 1 (.object "LostLetters$Row") := ⟨RX0, TX0, 10, rfl, (by decide +kernel), (by decide +kernel), rfl, rfl, (by decide +kernel)⟩
theorem fl_X0_21 : fLk RX0 21 0 2 := ⟨RX0, TX0, 10, rfl, (by decide +kernel), (Or.inl (by decide +kernel))⟩
theorem fp_X0_21 : fPt RX0 21 0 2 (.array .int) := ⟨RX0, TX0, 10, rfl, (by decide +kernel), (by decide +kernel), rfl, (Or.inl (by decide +kernel))⟩
theorem fl_X0_25 : fLk RX0 25 0 3 := ⟨RX0, TX0, 10, rfl, (by decide +kernel), (Or.inl (by decide +kernel))⟩
theorem fp_X0_25 : fPt RX0 25 0 3 .int := ⟨RX0, TX0, 10, rfl, (by decide +kernel), (by decide +kernel), rfl, (Or.inl (by decide +kernel))⟩
theorem fl_X0_29 : fLk RX0 29 0 5 := ⟨RX0, TX0, 10, rfl, (by decide +kernel), (Or.inl (by decide +kernel))⟩
theorem fp_X0_29 : fPt RX0 29 0 5 .int := ⟨RX0, TX0, 10, rfl, (by decide +kernel), (by decide +kernel), rfl, (Or.inl (by decide +kernel))⟩
theorem fl_X0_32 : fLk RX0 32 0 8 := ⟨RX0, TX0, 10, rfl, (by decide +kernel), (Or.inl (by decide +kernel))⟩
theorem fp_X0_32 : fPt RX0 32 0 8 .int := ⟨RX0, TX0, 10, rfl, (by decide +kernel), (by decide +kernel), rfl, (Or.inl (by decide +kernel))⟩
theorem fl_X0_35 : fLk RX0 35 0 4 := ⟨RX0, TX0, 10, rfl, (by decide +kernel), (Or.inl (by decide +kernel))⟩
theorem fp_X0_35 : fPt RX0 35 0 4 .int := ⟨RX0, TX0, 10, rfl, (by decide +kernel), (by decide +kernel), rfl, (Or.inl (by decide +kernel))⟩
theorem fl_X0_38 : fLk RX0 38 0 6 := ⟨RX0, TX0, 10, rfl, (by decide +kernel), (Or.inl (by decide +kernel))⟩
theorem fp_X0_38 : fPt RX0 38 0 6 .int := ⟨RX0, TX0, 10, rfl, (by decide +kernel), (by decide +kernel), rfl, (Or.inl (by decide +kernel))⟩
theorem fl_X0_41 : fLk RX0 41 0 7 := ⟨RX0, TX0, 10, rfl, (by decide +kernel), (Or.inl (by decide +kernel))⟩
theorem fp_X0_41 : fPt RX0 41 0 7 .int := ⟨RX0, TX0, 10, rfl, (by decide +kernel), (by decide +kernel), rfl, (Or.inl (by decide +kernel))⟩
theorem fp_X0_67 : fPt RX0 67 0 9 .int := ⟨RX0, TX0, 10, rfl, (by decide +kernel), (by decide +kernel), rfl, (Or.inl (by decide +kernel))⟩
theorem fl_X0_79 : fLk RX0 79 4 1 := ⟨RX4, TX4, 2, rfl, (by decide +kernel), (Or.inr ⟨"LostLetters", (by decide +kernel)⟩)⟩
theorem fl_X1_10 : fLk RX1 10 1 0 := ⟨RX1, TX1, 5, rfl, (by decide +kernel), (Or.inl (by decide +kernel))⟩
theorem fp_X1_10 : fPf RX1 10 1 0 (.object "LostLetters$Row") := ⟨RX1, TX1, 5, rfl, (by decide +kernel), (by decide +kernel), rfl, rfl, (by decide +kernel)⟩
theorem fl_X1_16 : fLk RX1 16 1 4 := ⟨RX1, TX1, 5, rfl, (by decide +kernel), (Or.inl (by decide +kernel))⟩
theorem fp_X1_16 : fPt RX1 16 1 4 .long := ⟨RX1, TX1, 5, rfl, (by decide +kernel), (by decide +kernel), rfl, (Or.inl (by decide +kernel))⟩
theorem fl_X1_20 : fLk RX1 20 1 1 := ⟨RX1, TX1, 5, rfl, (by decide +kernel), (Or.inl (by decide +kernel))⟩
theorem fp_X1_20 : fPt RX1 20 1 1 .int := ⟨RX1, TX1, 5, rfl, (by decide +kernel), (by decide +kernel), rfl, (Or.inl (by decide +kernel))⟩
theorem fl_X1_24 : fLk RX1 24 1 2 := ⟨RX1, TX1, 5, rfl, (by decide +kernel), (Or.inl (by decide +kernel))⟩
theorem fp_X1_24 : fPt RX1 24 1 2 .int := ⟨RX1, TX1, 5, rfl, (by decide +kernel), (by decide +kernel), rfl, (Or.inl (by decide +kernel))⟩
theorem fl_X1_27 : fLk RX1 27 1 3 := ⟨RX1, TX1, 5, rfl, (by decide +kernel), (Or.inl (by decide +kernel))⟩
theorem fp_X1_27 : fPt RX1 27 1 3 .int := ⟨RX1, TX1, 5, rfl, (by decide +kernel), (by decide +kernel), rfl, (Or.inl (by decide +kernel))⟩
theorem fl_X1_33 : fLk RX1 33 4 1 := ⟨RX4, TX4, 2, rfl, (by decide +kernel), (Or.inr ⟨"LostLetters", (by decide +kernel)⟩)⟩
theorem fl_X2_11 : fLk RX2 11 2 0 := ⟨RX2, TX2, 3, rfl, (by decide +kernel), (Or.inl (by decide +kernel))⟩
theorem fp_X2_11 : fPf RX2 11 2 0 (.array .int) := ⟨RX2, TX2, 3, rfl, (by decide +kernel), (by decide +kernel), rfl, rfl, (by decide +kernel)⟩
theorem fl_X2_15 : fLk RX2 15 2 1 := ⟨RX2, TX2, 3, rfl, (by decide +kernel), (Or.inl (by decide +kernel))⟩
theorem fp_X2_15 : fPf RX2 15 2 1 (.array .long) := ⟨RX2, TX2, 3, rfl, (by decide +kernel), (by decide +kernel), rfl, rfl, (by decide +kernel)⟩
theorem fl_X2_22 : fLk RX2 22 2 2 := ⟨RX2, TX2, 3, rfl, (by decide +kernel), (Or.inl (by decide +kernel))⟩
theorem fp_X2_22 : fPf RX2 22 2 2 (.object "LostLetters$Row") := ⟨RX2, TX2, 3, rfl, (by decide +kernel), (by decide +kernel), rfl, rfl, (by decide +kernel)⟩
theorem fl_X2_26 : fLk RX2 26 4 1 := ⟨RX4, TX4, 2, rfl, (by decide +kernel), (Or.inr ⟨"LostLetters", (by decide +kernel)⟩)⟩
theorem fl_X3_9 : fLk RX3 9 3 0 := ⟨RX3, TX3, 2, rfl, (by decide +kernel), (Or.inl (by decide +kernel))⟩
theorem fp_X3_9 : fPf RX3 9 3 0 (.array .long) := ⟨RX3, TX3, 2, rfl, (by decide +kernel), (by decide +kernel), rfl, rfl, (by decide +kernel)⟩
theorem fl_X3_15 : fLk RX3 15 3 1 := ⟨RX3, TX3, 2, rfl, (by decide +kernel), (Or.inl (by decide +kernel))⟩
theorem fp_X3_15 : fPf RX3 15 3 1 (.array .long) := ⟨RX3, TX3, 2, rfl, (by decide +kernel), (by decide +kernel), rfl, rfl, (by decide +kernel)⟩
theorem fl_X3_18 : fLk RX3 18 4 1 := ⟨RX4, TX4, 2, rfl, (by decide +kernel), (Or.inr ⟨"LostLetters", (by decide +kernel)⟩)⟩
theorem fl_X4_15 : fLk RX4 15 4 1 := ⟨RX4, TX4, 2, rfl, (by decide +kernel), (Or.inl (by decide +kernel))⟩
theorem fp_X4_15 : fPt RX4 15 4 1 .int := ⟨RX4, TX4, 2, rfl, (by decide +kernel), (by decide +kernel), rfl, (Or.inl (by decide +kernel))⟩
theorem fl_X4_19 : fLk RX4 19 4 0 := ⟨RX4, TX4, 2, rfl, (by decide +kernel), (Or.inl (by decide +kernel))⟩
theorem fp_X4_19 : fPt RX4 19 4 0 .long := ⟨RX4, TX4, 2, rfl, (by decide +kernel), (by decide +kernel), rfl, (Or.inl (by decide +kernel))⟩
theorem fl_X5_11 : fLk RX5 11 5 0 := ⟨RX5, TX5, 9, rfl, (by decide +kernel), (Or.inl (by decide +kernel))⟩
theorem fp_X5_11 : fPf RX5 11 5 0 (.array (.object "LostLetters$Row")) := ⟨RX5, TX5, 9, rfl, (by decide +kernel), (by decide +kernel), rfl, rfl, (by decide +kernel)⟩
theorem fl_X5_18 : fLk RX5 18 5 1 := ⟨RX5, TX5, 9, rfl, (by decide +kernel), (Or.inl (by decide +kernel))⟩
theorem fp_X5_18 : fPf RX5 18 5 1 (.array .int) := ⟨RX5, TX5, 9, rfl, (by decide +kernel), (by decide +kernel), rfl, rfl, (by decide +kernel)⟩
theorem fl_X5_22 : fLk RX5 22 5 2 := ⟨RX5, TX5, 9, rfl, (by decide +kernel), (Or.inl (by decide +kernel))⟩
theorem fp_X5_22 : fPf RX5 22 5 2 (.object "LostLetters$Row") := ⟨RX5, TX5, 9, rfl, (by decide +kernel), (by decide +kernel), rfl, rfl, (by decide +kernel)⟩
theorem fl_X5_26 : fLk RX5 26 5 3 := ⟨RX5, TX5, 9, rfl, (by decide +kernel), (Or.inl (by decide +kernel))⟩
theorem fp_X5_26 : fPf RX5 26 5 3 (.object "LostLetters$Row") := ⟨RX5, TX5, 9, rfl, (by decide +kernel), (by decide +kernel), rfl, rfl, (by decide +kernel)⟩
theorem fl_X5_29 : fLk RX5 29 5 4 := ⟨RX5, TX5, 9, rfl, (by decide +kernel), (Or.inl (by decide +kernel))⟩
theorem fp_X5_29 : fPt RX5 29 5 4 .int := ⟨RX5, TX5, 9, rfl, (by decide +kernel), (by decide +kernel), rfl, (Or.inl (by decide +kernel))⟩
theorem fl_X5_37 : fLk RX5 37 5 5 := ⟨RX5, TX5, 9, rfl, (by decide +kernel), (Or.inl (by decide +kernel))⟩
theorem fp_X5_37 : fPt RX5 37 5 5 .int := ⟨RX5, TX5, 9, rfl, (by decide +kernel), (by decide +kernel), rfl, (Or.inl (by decide +kernel))⟩
theorem fl_X5_40 : fLk RX5 40 5 6 := ⟨RX5, TX5, 9, rfl, (by decide +kernel), (Or.inl (by decide +kernel))⟩
theorem fp_X5_40 : fPt RX5 40 5 6 .int := ⟨RX5, TX5, 9, rfl, (by decide +kernel), (by decide +kernel), rfl, (Or.inl (by decide +kernel))⟩
theorem fl_X5_43 : fLk RX5 43 5 7 := ⟨RX5, TX5, 9, rfl, (by decide +kernel), (Or.inl (by decide +kernel))⟩
theorem fp_X5_43 : fPt RX5 43 5 7 .int := ⟨RX5, TX5, 9, rfl, (by decide +kernel), (by decide +kernel), rfl, (Or.inl (by decide +kernel))⟩
theorem fl_X5_46 : fLk RX5 46 5 8 := ⟨RX5, TX5, 9, rfl, (by decide +kernel), (Or.inl (by decide +kernel))⟩
theorem fp_X5_46 : fPt RX5 46 5 8 .long := ⟨RX5, TX5, 9, rfl, (by decide +kernel), (by decide +kernel), rfl, (Or.inl (by decide +kernel))⟩
theorem fl_X5_54 : fLk RX5 54 4 1 := ⟨RX4, TX4, 2, rfl, (by decide +kernel), (Or.inr ⟨"LostLetters", (by decide +kernel)⟩)⟩
theorem fl_X6_9 : fLk RX6 9 6 6 := ⟨RX6, TX6, 7, rfl, (by decide +kernel), (Or.inl (by decide +kernel))⟩
theorem fp_X6_9 : fPt RX6 9 6 6 .int := ⟨RX6, TX6, 7, rfl, (by decide +kernel), (by decide +kernel), rfl, (Or.inl (by decide +kernel))⟩
theorem fl_X6_15 : fLk RX6 15 6 0 := ⟨RX6, TX6, 7, rfl, (by decide +kernel), (Or.inl (by decide +kernel))⟩
theorem fp_X6_15 : fPf RX6 15 6 0 (.array (.object "LostLetters$Row")) := ⟨RX6, TX6, 7, rfl, (by decide +kernel), (by decide +kernel), rfl, rfl, (by decide +kernel)⟩
theorem fl_X6_23 : fLk RX6 23 6 1 := ⟨RX6, TX6, 7, rfl, (by decide +kernel), (Or.inl (by decide +kernel))⟩
theorem fp_X6_23 : fPf RX6 23 6 1 (.object "LostLetters$Code") := ⟨RX6, TX6, 7, rfl, (by decide +kernel), (by decide +kernel), rfl, rfl, (by decide +kernel)⟩
theorem fl_X6_30 : fLk RX6 30 6 2 := ⟨RX6, TX6, 7, rfl, (by decide +kernel), (Or.inl (by decide +kernel))⟩
theorem fp_X6_30 : fPf RX6 30 6 2 (.object "LostLetters$Parts") := ⟨RX6, TX6, 7, rfl, (by decide +kernel), (by decide +kernel), rfl, rfl, (by decide +kernel)⟩
theorem fl_X6_37 : fLk RX6 37 6 3 := ⟨RX6, TX6, 7, rfl, (by decide +kernel), (Or.inl (by decide +kernel))⟩
theorem fp_X6_37 : fPf RX6 37 6 3 (.object "LostLetters$Pair") := ⟨RX6, TX6, 7, rfl, (by decide +kernel), (by decide +kernel), rfl, rfl, (by decide +kernel)⟩
theorem fl_X6_44 : fLk RX6 44 6 4 := ⟨RX6, TX6, 7, rfl, (by decide +kernel), (Or.inl (by decide +kernel))⟩
theorem fp_X6_44 : fPf RX6 44 6 4 (.object "LostLetters$Traces") := ⟨RX6, TX6, 7, rfl, (by decide +kernel), (by decide +kernel), rfl, rfl, (by decide +kernel)⟩
theorem fl_X6_51 : fLk RX6 51 6 5 := ⟨RX6, TX6, 7, rfl, (by decide +kernel), (Or.inl (by decide +kernel))⟩
theorem fp_X6_51 : fPf RX6 51 6 5 (.object "LostLetters$Line") := ⟨RX6, TX6, 7, rfl, (by decide +kernel), (by decide +kernel), rfl, rfl, (by decide +kernel)⟩
theorem fl_X6_74 : fLk RX6 74 4 1 := ⟨RX4, TX4, 2, rfl, (by decide +kernel), (Or.inr ⟨"LostLetters", (by decide +kernel)⟩)⟩
theorem fl_X6_111 : fLk RX6 111 0 9 := ⟨RX0, TX0, 10, rfl, (by decide +kernel), (Or.inr ⟨"LostLetters", (by decide +kernel)⟩)⟩
theorem fl_X6_130 : fLk RX6 130 0 1 := ⟨RX0, TX0, 10, rfl, (by decide +kernel), (Or.inr ⟨"LostLetters", (by decide +kernel)⟩)⟩
theorem fl_X6_165 : fLk RX6 165 5 4 := ⟨RX5, TX5, 9, rfl, (by decide +kernel), (Or.inr ⟨"LostLetters", (by decide +kernel)⟩)⟩
theorem fl_X6_176 : fLk RX6 176 5 3 := ⟨RX5, TX5, 9, rfl, (by decide +kernel), (Or.inr ⟨"LostLetters", (by decide +kernel)⟩)⟩
theorem fp_X6_185 : fPt RX6 185 1 4 .long := ⟨RX1, TX1, 5, rfl, (by decide +kernel), (by decide +kernel), rfl, (Or.inr ⟨"LostLetters", (by decide +kernel)⟩)⟩
theorem fl_X6_193 : fLk RX6 193 1 0 := ⟨RX1, TX1, 5, rfl, (by decide +kernel), (Or.inr ⟨"LostLetters", (by decide +kernel)⟩)⟩
theorem fl_X6_196 : fLk RX6 196 0 4 := ⟨RX0, TX0, 10, rfl, (by decide +kernel), (Or.inr ⟨"LostLetters", (by decide +kernel)⟩)⟩
theorem fl_X7_7 : fLk RX7 7 7 0 := ⟨RX7, TX7, 17, rfl, (by decide +kernel), (Or.inl (by decide +kernel))⟩
theorem fp_X7_7 : fPt RX7 7 7 0 .int := ⟨RX7, TX7, 17, rfl, (by decide +kernel), (by decide +kernel), rfl, (Or.inl (by decide +kernel))⟩
theorem fl_X7_13 : fLk RX7 13 7 1 := ⟨RX7, TX7, 17, rfl, (by decide +kernel), (Or.inl (by decide +kernel))⟩
theorem fp_X7_13 : fPf RX7 13 7 1 (.array .int) := ⟨RX7, TX7, 17, rfl, (by decide +kernel), (by decide +kernel), rfl, rfl, (by decide +kernel)⟩
theorem fl_X7_17 : fLk RX7 17 7 2 := ⟨RX7, TX7, 17, rfl, (by decide +kernel), (Or.inl (by decide +kernel))⟩
theorem fp_X7_17 : fPf RX7 17 7 2 (.array .int) := ⟨RX7, TX7, 17, rfl, (by decide +kernel), (by decide +kernel), rfl, rfl, (by decide +kernel)⟩
theorem fl_X7_20 : fLk RX7 20 7 11 := ⟨RX7, TX7, 17, rfl, (by decide +kernel), (Or.inl (by decide +kernel))⟩
theorem fp_X7_20 : fPt RX7 20 7 11 .long := ⟨RX7, TX7, 17, rfl, (by decide +kernel), (by decide +kernel), rfl, (Or.inl (by decide +kernel))⟩
theorem fl_X7_24 : fLk RX7 24 7 12 := ⟨RX7, TX7, 17, rfl, (by decide +kernel), (Or.inl (by decide +kernel))⟩
theorem fp_X7_24 : fPf RX7 24 7 12 (.array .int) := ⟨RX7, TX7, 17, rfl, (by decide +kernel), (by decide +kernel), rfl, rfl, (by decide +kernel)⟩
theorem fl_X7_27 : fLk RX7 27 7 13 := ⟨RX7, TX7, 17, rfl, (by decide +kernel), (Or.inl (by decide +kernel))⟩
theorem fp_X7_27 : fPf RX7 27 7 13 (.array .int) := ⟨RX7, TX7, 17, rfl, (by decide +kernel), (by decide +kernel), rfl, rfl, (by decide +kernel)⟩
theorem fl_X7_30 : fLk RX7 30 7 15 := ⟨RX7, TX7, 17, rfl, (by decide +kernel), (Or.inl (by decide +kernel))⟩
theorem fp_X7_30 : fPf RX7 30 7 15 (.array .long) := ⟨RX7, TX7, 17, rfl, (by decide +kernel), (by decide +kernel), rfl, rfl, (by decide +kernel)⟩
theorem fl_X7_34 : fLk RX7 34 7 16 := ⟨RX7, TX7, 17, rfl, (by decide +kernel), (Or.inl (by decide +kernel))⟩
theorem fp_X7_34 : fPf RX7 34 7 16 (.array .int) := ⟨RX7, TX7, 17, rfl, (by decide +kernel), (by decide +kernel), rfl, rfl, (by decide +kernel)⟩
theorem fl_X7_47 : fLk RX7 47 7 3 := ⟨RX7, TX7, 17, rfl, (by decide +kernel), (Or.inl (by decide +kernel))⟩
theorem fp_X7_47 : fPt RX7 47 7 3 .int := ⟨RX7, TX7, 17, rfl, (by decide +kernel), (by decide +kernel), rfl, (Or.inl (by decide +kernel))⟩
theorem fl_X7_50 : fLk RX7 50 7 7 := ⟨RX7, TX7, 17, rfl, (by decide +kernel), (Or.inl (by decide +kernel))⟩
theorem fp_X7_50 : fPt RX7 50 7 7 .int := ⟨RX7, TX7, 17, rfl, (by decide +kernel), (by decide +kernel), rfl, (Or.inl (by decide +kernel))⟩
theorem fl_X7_76 : fLk RX7 76 7 4 := ⟨RX7, TX7, 17, rfl, (by decide +kernel), (Or.inl (by decide +kernel))⟩
theorem fp_X7_76 : fPt RX7 76 7 4 .int := ⟨RX7, TX7, 17, rfl, (by decide +kernel), (by decide +kernel), rfl, (Or.inl (by decide +kernel))⟩
theorem fl_X7_79 : fLk RX7 79 7 5 := ⟨RX7, TX7, 17, rfl, (by decide +kernel), (Or.inl (by decide +kernel))⟩
theorem fp_X7_79 : fPt RX7 79 7 5 .int := ⟨RX7, TX7, 17, rfl, (by decide +kernel), (by decide +kernel), rfl, (Or.inl (by decide +kernel))⟩
theorem fl_X7_85 : fLk RX7 85 7 6 := ⟨RX7, TX7, 17, rfl, (by decide +kernel), (Or.inl (by decide +kernel))⟩
theorem fp_X7_85 : fPt RX7 85 7 6 .int := ⟨RX7, TX7, 17, rfl, (by decide +kernel), (by decide +kernel), rfl, (Or.inl (by decide +kernel))⟩
theorem fl_X7_110 : fLk RX7 110 7 14 := ⟨RX7, TX7, 17, rfl, (by decide +kernel), (Or.inl (by decide +kernel))⟩
theorem fp_X7_110 : fPt RX7 110 7 14 .int := ⟨RX7, TX7, 17, rfl, (by decide +kernel), (by decide +kernel), rfl, (Or.inl (by decide +kernel))⟩
theorem fl_X7_158 : fLk RX7 158 7 8 := ⟨RX7, TX7, 17, rfl, (by decide +kernel), (Or.inl (by decide +kernel))⟩
theorem fp_X7_158 : fPt RX7 158 7 8 .int := ⟨RX7, TX7, 17, rfl, (by decide +kernel), (by decide +kernel), rfl, (Or.inl (by decide +kernel))⟩
theorem fl_X7_161 : fLk RX7 161 7 9 := ⟨RX7, TX7, 17, rfl, (by decide +kernel), (Or.inl (by decide +kernel))⟩
theorem fp_X7_161 : fPt RX7 161 7 9 .int := ⟨RX7, TX7, 17, rfl, (by decide +kernel), (by decide +kernel), rfl, (Or.inl (by decide +kernel))⟩
theorem fl_X7_164 : fLk RX7 164 7 10 := ⟨RX7, TX7, 17, rfl, (by decide +kernel), (Or.inl (by decide +kernel))⟩
theorem fp_X7_164 : fPt RX7 164 7 10 .int := ⟨RX7, TX7, 17, rfl, (by decide +kernel), (by decide +kernel), rfl, (Or.inl (by decide +kernel))⟩
theorem lk_L_18 : Cond.constantLong RL 18 (4294967295) ∈ lw_tbl := (by decide +kernel)
theorem lk_X1_36 : Cond.constantLong RX1 36 (25214903917) ∈ lw_tbl := (by decide +kernel)
theorem lk_X1_38 : Cond.constantLong RX1 38 (11) ∈ lw_tbl := (by decide +kernel)
theorem lk_X1_40 : Cond.constantLong RX1 40 (281474976710655) ∈ lw_tbl := (by decide +kernel)
theorem lk_X4_23 : Cond.constantLong RX4 23 (3) ∈ lw_tbl := (by decide +kernel)
theorem lk_X4_25 : Cond.constantLong RX4 25 (-1) ∈ lw_tbl := (by decide +kernel)
theorem lk_X5_91 : Cond.constantLong RX5 91 (1000000000000000) ∈ lw_tbl := (by decide +kernel)
theorem lk_X6_134 : Cond.constantLong RX6 134 (-1) ∈ lw_tbl := (by decide +kernel)
theorem lk_X7_37 : Cond.constantLong RX7 37 (11) ∈ lw_tbl := (by decide +kernel)
theorem lk_X7_43 : Cond.constantLong RX7 43 (2) ∈ lw_tbl := (by decide +kernel)
theorem lk_X7_45 : Cond.constantLong RX7 45 (4) ∈ lw_tbl := (by decide +kernel)
theorem lk_X7_57 : Cond.constantLong RX7 57 (24) ∈ lw_tbl := (by decide +kernel)
theorem lk_X7_59 : Cond.constantLong RX7 59 (3) ∈ lw_tbl := (by decide +kernel)
theorem lk_X7_96 : Cond.constantLong RX7 96 (16) ∈ lw_tbl := (by decide +kernel)
theorem lk_X7_98 : Cond.constantLong RX7 98 (64) ∈ lw_tbl := (by decide +kernel)
theorem lk_X7_124 : Cond.constantLong RX7 124 (-1) ∈ lw_tbl := (by decide +kernel)
theorem lk_X7_136 : Cond.constantLong RX7 136 (6) ∈ lw_tbl := (by decide +kernel)
theorem lk_X7_144 : Cond.constantLong RX7 144 (1000000000000000) ∈ lw_tbl := (by decide +kernel)
theorem lk_X7_146 : Cond.constantLong RX7 146 (12) ∈ lw_tbl := (by decide +kernel)
theorem lk_X7_167 : Cond.constantLong RX7 167 (281474976710655) ∈ lw_tbl := (by decide +kernel)
theorem lk_X7_169 : Cond.constantLong RX7 169 (25214903917) ∈ lw_tbl := (by decide +kernel)
theorem ln_L_7 : nNw RL 7 6 [.null, .null, .null, .null, .null, .null, .int 0] := ⟨RX6, TX6, 7, tyX6, rfl, (by decide +kernel), (by decide +kernel), (by decide +kernel), tyX6_ok, by decide +kernel, rfl, fun _ _ => rfl⟩
theorem ln_L_10 : nNw RL 10 7 [.int 0, .null, .null, .int 0, .int 0, .int 0, .int 0, .int 0, .int 0, .int 0, .int 0, .long 0, .null, .null, .int 0, .null, .null] := ⟨RX7, TX7, 17, tyX7, rfl, (by decide +kernel), (by decide +kernel), (by decide +kernel), tyX7_ok, by decide +kernel, rfl, fun _ _ => rfl⟩
theorem ln_X0_9 : nNw RX0 9 4 [.long 0, .int 0] := ⟨RX4, TX4, 2, tyX4, rfl, (by decide +kernel), (by decide +kernel), (by decide +kernel), tyX4_ok, by decide +kernel, rfl, fun _ _ => rfl⟩
theorem ln_X1_7 : nNw RX1 7 4 [.long 0, .int 0] := ⟨RX4, TX4, 2, tyX4, rfl, (by decide +kernel), (by decide +kernel), (by decide +kernel), tyX4_ok, by decide +kernel, rfl, fun _ _ => rfl⟩
theorem ln_X2_19 : nNw RX2 19 4 [.long 0, .int 0] := ⟨RX4, TX4, 2, tyX4, rfl, (by decide +kernel), (by decide +kernel), (by decide +kernel), tyX4_ok, by decide +kernel, rfl, fun _ _ => rfl⟩
theorem lr_X5_9 : Cond.classLink RX5 9 RX4 ∈ lw_tbl := (by decide +kernel)
theorem ln_X5_9 : nNw RX5 9 4 [.long 0, .int 0] := ⟨RX4, TX4, 2, tyX4, rfl, (by decide +kernel), (by decide +kernel), (by decide +kernel), tyX4_ok, by decide +kernel, rfl, fun _ _ => rfl⟩
theorem lr_X6_13 : Cond.classLink RX6 13 RX4 ∈ lw_tbl := (by decide +kernel)
theorem ln_X6_13 : nNw RX6 13 4 [.long 0, .int 0] := ⟨RX4, TX4, 2, tyX4, rfl, (by decide +kernel), (by decide +kernel), (by decide +kernel), tyX4_ok, by decide +kernel, rfl, fun _ _ => rfl⟩
theorem ln_X6_20 : nNw RX6 20 0 [.null, .null, .null, .int 0, .int 0, .int 0, .int 0, .int 0, .int 0, .int 0] := ⟨RX0, TX0, 10, tyX0, rfl, (by decide +kernel), (by decide +kernel), (by decide +kernel), tyX0_ok, by decide +kernel, rfl, fun _ _ => rfl⟩
theorem ln_X6_27 : nNw RX6 27 3 [.null, .null] := ⟨RX3, TX3, 2, tyX3, rfl, (by decide +kernel), (by decide +kernel), (by decide +kernel), tyX3_ok, by decide +kernel, rfl, fun _ _ => rfl⟩
theorem ln_X6_34 : nNw RX6 34 2 [.null, .null, .null] := ⟨RX2, TX2, 3, tyX2, rfl, (by decide +kernel), (by decide +kernel), (by decide +kernel), tyX2_ok, by decide +kernel, rfl, fun _ _ => rfl⟩
theorem ln_X6_41 : nNw RX6 41 5 [.null, .null, .null, .null, .int 0, .int 0, .int 0, .int 0, .long 0] := ⟨RX5, TX5, 9, tyX5, rfl, (by decide +kernel), (by decide +kernel), (by decide +kernel), tyX5_ok, by decide +kernel, rfl, fun _ _ => rfl⟩
theorem ln_X6_48 : nNw RX6 48 1 [.null, .int 0, .int 0, .int 0, .long 0] := ⟨RX1, TX1, 5, tyX1, rfl, (by decide +kernel), (by decide +kernel), (by decide +kernel), tyX1_ok, by decide +kernel, rfl, fun _ _ => rfl⟩
