theorem lw_head {p : Program} {l : Launch} {e : Env} {s : State} {m : MethodId} {below : List Frame} {meth : Method} {c : Code} {b L : Nat} {xs : Nat → Int32} {G : GG} {A : Nat → Prop} {Xh Mh : Nat} (hx : p.tables.exec = Jvm.exec) (hb : c.code = b_Lw_law) (hml : c.maxLocals = 4) (hown : s.vm.findClass R_Lw = some m.cls) (hts : ∀ w ∈ wG, w.before #[Value.ref b] s = true) (hX : va_X b L xs s s.heap) (hbl : b < s.heap.size) (hbA : ¬ A b) (hA : ∀ q, s.heap.size ≤ q → A q) (hAe : ∀ q, A q → s.heap.size ≤ q) (hK : va_K G.1 classes (tysG G) s) (hZ : Zs G A s s.heap) (hL : L ≤ 3586) (hr : meth.sig.returnType = ret) (hlocks : meth.locks = false) {H : Heap} {locs : List Loc} {cells slots j : Nat} {ls : Array Slot} (hj : j < 2 ^ 30) (hS : va_S A s.heap H locs) (hl : lv_has ls 4 [(3, .int (nI j)), (2, .ref Mh), (1, .ref Xh), (0, .ref b)]) (hc : cells ≤ 600000) (hs : slots ≤ 7302250) (kk : j + 7 ≤ L → W p l e room_1 s m #[Value.ref b] below meth c H locs cells slots (lw_Z below #[Value.ref b] s) (F0 m 53 ls [.int (xs (nI j).toNatClampNeg &&& 31)])) : W p l e room_1 s m #[Value.ref b] below meth c H locs cells slots (lw_Z below #[Value.ref b] s) (F0 m 38 ls []) := by
  refine lv_iload_n hx hb d_Lw_law_38 rfl (lv_at hl 0 rfl) ?_
  refine lv_aload_n hx hb d_Lw_law_39 rfl (lv_at hl 3 rfl) ?_
  refine va_slen hx hb hX hbl hbA hS d_Lw_law_40 ?_
  refine lv_bipush (v := 7) hx hb d_Lw_law_41 (by decide) ?_
  refine lv_isub hx hb d_Lw_law_43 ?_
  refine lv_icmp_gt (tgt := 695) hx hb d_Lw_law_44 (by decide) (fun c1 => ?_) (fun c1 => ?_)
  · refine lv_iconst (v := 1) hx hb d_Lw_law_695 (by decide) ?_
    refine va_forget (fun q hq => hAe _ (hS.2.2 q hq)) ?_
    refine W.widen (k := 600000) (n := 7302250) hc hs ?_
    exact lw_ret hx hb hr hlocks d_Lw_law_696
  · have h7 : j + 7 ≤ L := by
      rw [Int32.lt_iff_toInt_lt, nI_toInt (by omega)] at c1
      have e : (Int32.ofNat L - 7).toInt = (L : Int) - 7 := by
        rw [Int32.toInt_sub, show (Int32.ofNat L).toInt = (L : Int) from nI_toInt (by omega), show (7 : Int32).toInt = 7 by decide]
        exact Int.bmod_eq_of_le (by omega) (by omega)
      rw [e] at c1
      omega
    refine lv_aload_n hx hb d_Lw_law_47 rfl (lv_at hl 3 rfl) ?_
    refine lv_iload_n hx hb d_Lw_law_48 rfl (lv_at hl 0 rfl) ?_
    refine va_sld hx hb hX hbl hbA hS (vp_in_nI (by omega) (by omega)) d_Lw_law_49 ?_
    refine lv_bipush (v := 31) hx hb d_Lw_law_50 (by decide) ?_
    refine lv_iand hx hb d_Lw_law_52 ?_
    exact kk h7
theorem lw_tail {p : Program} {l : Launch} {e : Env} {s : State} {m : MethodId} {below : List Frame} {meth : Method} {c : Code} {b L : Nat} {xs : Nat → Int32} {G : GG} {A : Nat → Prop} {Xh Mh : Nat} {H : Heap} {locs : List Loc} {cells slots j : Nat} {ls : Array Slot} {Q : State → Prop} (hx : p.tables.exec = Jvm.exec) (hb : c.code = b_Lw_law) (hl : lv_has ls 4 [(3, .int (nI j)), (2, .ref Mh), (1, .ref Xh), (0, .ref b)]) (kk : ∀ ls' : Array Slot, lv_has ls' 4 [(3, .int (nI (j + 7))), (2, .ref Mh), (1, .ref Xh), (0, .ref b)] → W p l e room_1 s m #[Value.ref b] below meth c H locs cells slots Q (F0 m 38 ls' [])) : W p l e room_1 s m #[Value.ref b] below meth c H locs cells slots Q (F0 m 689 ls []) := by
  refine lv_iinc (v := nI (j + 7)) (lv' := [(3, .int (nI (j + 7))), (2, .ref Mh), (1, .ref Xh), (0, .ref b)]) hx hb d_Lw_law_689 hl (k := 0) rfl (nI_add j 7) (by decide) rfl (fun ls hl => ?_)
  refine lv_goto (tgt := 38) hx hb d_Lw_law_692 (by decide) ?_
  exact kk ls hl
set_option maxHeartbeats 40000000 in
set_option maxRecDepth 100000 in
theorem lw_loop {p : Program} {l : Launch} {e : Env} {s : State} {m : MethodId} {below : List Frame} {meth : Method} {c : Code} {b L : Nat} {xs : Nat → Int32} {G : GG} {A : Nat → Prop} {Xh Mh : Nat} (hx : p.tables.exec = Jvm.exec) (hb : c.code = b_Lw_law) (hml : c.maxLocals = 4) (hown : s.vm.findClass R_Lw = some m.cls) (hts : ∀ w ∈ wG, w.before #[Value.ref b] s = true) (hX : va_X b L xs s s.heap) (hbl : b < s.heap.size) (hbA : ¬ A b) (hA : ∀ q, s.heap.size ≤ q → A q) (hAe : ∀ q, A q → s.heap.size ≤ q) (hK : va_K G.1 classes (tysG G) s) (hZ : Zs G A s s.heap) (hL : L ≤ 3586) (hr : meth.sig.returnType = ret) (hlocks : meth.locks = false) : ∀ (n j : Nat), L < j + 7 * n → j < 2 ^ 29 → ∀ (H : Heap) (locs : List Loc) (cells slots : Nat) (ls : Array Slot), LwI G A Xh Mh H → va_S A s.heap H locs → lv_has ls 4 [(3, .int (nI j)), (2, .ref Mh), (1, .ref Xh), (0, .ref b)] → cells + n ≤ 600000 → slots + 5 * n ≤ 7302250 → W p l e room_1 s m #[Value.ref b] below meth c H locs cells slots (lw_Z below #[Value.ref b] s) (F0 m 38 ls []) := by
  intro n
  induction n with
  | zero =>
    intro j h1 h2 H locs cells slots ls I hS hl hc hs
    exact lw_head hx hb hml hown hts hX hbl hbA hA hAe hK hZ hL hr hlocks (by omega) hS hl (by omega) (by omega) (fun h7 => absurd h7 (by omega))
  | succ n ih =>
    intro j h1 h2 H locs cells slots ls I hS hl hc hs
    refine lw_head hx hb hml hown hts hX hbl hbA hA hAe hK hZ hL hr hlocks (by omega) hS hl (by omega) (by omega) (fun h7 => ?_)
    have hf : cells + 1 ≤ room_1.cells ∧ slots + 5 ≤ room_1.slots := ⟨show cells + 1 ≤ 600000 by omega, show slots + 5 ≤ 7302250 by omega⟩
    have kk : ∀ (H1 : Heap) (locs1 : List Loc), LwI G A Xh Mh H1 → va_S A s.heap H1 locs1 → W p l e room_1 s m #[Value.ref b] below meth c H1 locs1 (cells + 1) (slots + 5) (lw_Z below #[Value.ref b] s) (F0 m 689 ls []) := fun H1 locs1 I1 hS1 => lw_tail hx hb hl (fun ls1 hl1 => ih (j + 7) (by omega) (by omega) H1 locs1 (cells + 1) (slots + 5) ls1 I1 hS1 hl1 (by omega) (by omega))
    obtain ⟨P_, Z_, Xtable_h, Xtable_a_numbers, Xtape_h, Xtape_a_cells, Xpurses_h, Xpurses_a_granted, Xpurses_a_spent, Xtext_h, Xtext_a_signs, Xwritten_h, Xwritten_a_signs, Xproduct_h, Xproduct_a_digits, Xa_toldNumbers, Xscript_h, Xscript_tokens_h, Xscript_tokens_a_kinds, Xscript_tokens_a_values, Xscript_tokens_a_places, Xscript_conditions_h, Xscript_conditions_a_steps, Xscript_conditions_a_values, Xscript_conditions_a_stack, Xscript_conditions_a_holding, Xscript_a_questions, Xscript_a_letStarts, Xscript_a_letEnds, Xscript_a_letOfLetter, Xspare_h, Xspare_tokens_h, Xspare_tokens_a_kinds, Xspare_tokens_a_values, Xspare_tokens_a_places, Xspare_conditions_h, Xspare_conditions_a_steps, Xspare_conditions_a_values, Xspare_conditions_a_stack, Xspare_conditions_a_holding, Xspare_a_questions, Xspare_a_letStarts, Xspare_a_letEnds, Xspare_a_letOfLetter, Ma_table, Ma_tape, Ma_budget, Ma_spent, Ma_text, Ma_kinds, Ma_values, Ma_scriptKinds, Ma_scriptValues, Ma_isTold, Ma_letOf, Ma_code, Ma_letEnd, Ma_letBegin, Ma_sort, Ma_column, Ma_low, Ma_high, Ma_by, Ma_top, Ma_begins, Ma_ends, Ma_scriptCode, Ma_scriptLetBegin, Ma_scriptLetEnd, Ma_aSort, Ma_aColumn, Ma_aLow, Ma_aHigh, Ma_aBy, Ma_aTop, Ma_aBegin, Ma_anEnd, Ma_told, Ma_out, Ma_goals, Ma_withs, Ma_pile, Ma_letValue, Ma_one, Ma_two, Xtable_f_numbers, Xtable__rows, Xtape_f_cells, Xtape__size, Xpurses_f_granted, Xpurses_f_spent, Xtext_f_signs, Xtext__size, Xwritten_f_signs, Xwritten__size, Xproduct_f_digits, Xproduct__size, Xf_toldNumbers, X_toldSize, Xscript_tokens_f_kinds, Xscript_tokens_f_values, Xscript_tokens_f_places, Xscript_tokens__size, Xscript_conditions_f_steps, Xscript_conditions_f_values, Xscript_conditions__size, Xscript_conditions_f_stack, Xscript_conditions__height, Xscript_conditions_f_holding, Xscript_qa, Xscript_Q, Xscript__asked, Xscript_f_letStarts, Xscript_f_letEnds, Xscript_f_letOfLetter, Xscript__lets, Xspare_tokens_f_kinds, Xspare_tokens_f_values, Xspare_tokens_f_places, Xspare_tokens__size, Xspare_conditions_f_steps, Xspare_conditions_f_values, Xspare_conditions__size, Xspare_conditions_f_stack, Xspare_conditions__height, Xspare_conditions_f_holding, Xspare_qa, Xspare_Q, Xspare__asked, Xspare_f_letStarts, Xspare_f_letEnds, Xspare_f_letOfLetter, Xspare__lets, X_hasScript, Mf_table, M_rows, Mf_tape, M_cells, Mf_budget, Mf_spent, Mf_text, M_signs, Mf_kinds, Mf_values, M_tokens, Mf_scriptKinds, Mf_scriptValues, M_scriptTokens, M_at, M_place, M_kind, M_value, M_depth, M_asked, M_lets, M_questions, M_statements, Mf_isTold, Mf_letOf, Mf_code, M_size, Mf_letEnd, Mf_letBegin, Mf_sort, Mf_column, Mf_low, Mf_high, Mf_by, Mf_top, Mf_begins, Mf_ends, M_scriptLets, M_scriptQuestions, Mf_scriptCode, Mf_scriptLetBegin, Mf_scriptLetEnd, Mf_aSort, Mf_aColumn, Mf_aLow, Mf_aHigh, Mf_aBy, Mf_aTop, Mf_aBegin, Mf_anEnd, Mf_told, M_toldCount, Mf_out, M_outs, Mf_goals, Mf_withs, M_goalCount, Mf_pile, Mf_letValue, Mf_one, Mf_two, R0, R1, R2, R3, R4, R5, R5c, R6, R7, R8, hP, hD⟩ := id I
    generalize ev : xs (nI j).toNatClampNeg &&& 31 = v
    by_cases c0 : v = 0
    · subst c0
      refine lv_tableIn (off := 83) (tgt := 136) hx hb d_Lw_law_53 (by decide) (by decide) rfl (by decide) ?_
      exact lw_c0 hx hb hml hown hts hX hbl hbA hA hK hZ h7 hL hf hl R0 R1 R2 R3 R4 R5 R5c R6 R7 R8 hP hD hS kk
    by_cases c1 : v = 1
    · subst c1
      refine lv_tableIn (off := 158) (tgt := 211) hx hb d_Lw_law_53 (by decide) (by decide) rfl (by decide) ?_
      exact lw_c1 hx hb hml hown hts hX hbl hbA hA hK hZ h7 hL hf hl R0 R1 R2 R3 R4 R5 R5c R6 R7 R8 hP hD hS kk
    by_cases c2 : v = 2
    · subst c2
      refine lv_tableIn (off := 181) (tgt := 234) hx hb d_Lw_law_53 (by decide) (by decide) rfl (by decide) ?_
      exact lw_c2 hx hb hml hown hts hX hbl hbA hA hK hZ h7 hL hf hl R0 R1 R2 R3 R4 R5 R5c R6 R7 R8 hP hD hS kk
    by_cases c3 : v = 3
    · subst c3
      refine lv_tableIn (off := 214) (tgt := 267) hx hb d_Lw_law_53 (by decide) (by decide) rfl (by decide) ?_
      exact lw_c3 hx hb hml hown hts hX hbl hbA hA hK hZ h7 hL hf hl R0 R1 R2 R3 R4 R5 R5c R6 R7 R8 hP hD hS kk
    by_cases c4 : v = 4
    · subst c4
      refine lv_tableIn (off := 237) (tgt := 290) hx hb d_Lw_law_53 (by decide) (by decide) rfl (by decide) ?_
      exact lw_c4 hx hb hml hown hts hX hbl hbA hA hK hZ h7 hL hf hl R0 R1 R2 R3 R4 R5 R5c R6 R7 R8 hP hD hS kk
    by_cases c5 : v = 5
    · subst c5
      refine lv_tableIn (off := 270) (tgt := 323) hx hb d_Lw_law_53 (by decide) (by decide) rfl (by decide) ?_
      exact lw_c5 hx hb hml hown hts hX hbl hbA hA hK hZ h7 hL hf hl R0 R1 R2 R3 R4 R5 R5c R6 R7 R8 hP hD hS kk
    by_cases c6 : v = 6
    · subst c6
      refine lv_tableIn (off := 303) (tgt := 356) hx hb d_Lw_law_53 (by decide) (by decide) rfl (by decide) ?_
      exact lw_c6 hx hb hml hown hts hX hbl hbA hA hK hZ h7 hL hf hl R0 R1 R2 R3 R4 R5 R5c R6 R7 R8 hP hD hS kk
    by_cases c7 : v = 7
    · subst c7
      refine lv_tableIn (off := 366) (tgt := 419) hx hb d_Lw_law_53 (by decide) (by decide) rfl (by decide) ?_
      exact lw_c7 hx hb hml hown hts hX hbl hbA hA hK hZ h7 hL hf hl R0 R1 R2 R3 R4 R5 R5c R6 R7 R8 hP hD hS kk
    by_cases c8 : v = 8
    · subst c8
      refine lv_tableIn (off := 379) (tgt := 432) hx hb d_Lw_law_53 (by decide) (by decide) rfl (by decide) ?_
      exact lw_c8 hx hb hml hown hts hX hbl hbA hA hK hZ h7 hL hf hl R0 R1 R2 R3 R4 R5 R5c R6 R7 R8 hP hD hS kk
    by_cases c9 : v = 9
    · subst c9
      refine lv_tableIn (off := 412) (tgt := 465) hx hb d_Lw_law_53 (by decide) (by decide) rfl (by decide) ?_
      exact lw_c9 hx hb hml hown hts hX hbl hbA hA hK hZ h7 hL hf hl R0 R1 R2 R3 R4 R5 R5c R6 R7 R8 hP hD hS kk
    by_cases c10 : v = 10
    · subst c10
      refine lv_tableIn (off := 435) (tgt := 488) hx hb d_Lw_law_53 (by decide) (by decide) rfl (by decide) ?_
      exact lw_c10 hx hb hml hown hts hX hbl hbA hA hK hZ h7 hL hf hl R0 R1 R2 R3 R4 R5 R5c R6 R7 R8 hP hD hS kk
    by_cases c11 : v = 11
    · subst c11
      refine lv_tableIn (off := 458) (tgt := 511) hx hb d_Lw_law_53 (by decide) (by decide) rfl (by decide) ?_
      exact lw_c11 hx hb hml hown hts hX hbl hbA hA hK hZ h7 hL hf hl R0 R1 R2 R3 R4 R5 R5c R6 R7 R8 hP hD hS kk
    by_cases c12 : v = 12
    · subst c12
      refine lv_tableIn (off := 481) (tgt := 534) hx hb d_Lw_law_53 (by decide) (by decide) rfl (by decide) ?_
      exact lw_c12 hx hb hml hown hts hX hbl hbA hA hK hZ h7 hL hf hl R0 R1 R2 R3 R4 R5 R5c R6 R7 R8 hP hD hS kk
    by_cases c13 : v = 13
    · subst c13
      refine lv_tableIn (off := 514) (tgt := 567) hx hb d_Lw_law_53 (by decide) (by decide) rfl (by decide) ?_
      exact lw_c13 hx hb hml hown hts hX hbl hbA hA hK hZ h7 hL hf hl R0 R1 R2 R3 R4 R5 R5c R6 R7 R8 hP hD hS kk
    by_cases c14 : v = 14
    · subst c14
      refine lv_tableIn (off := 527) (tgt := 580) hx hb d_Lw_law_53 (by decide) (by decide) rfl (by decide) ?_
      exact lw_c14 hx hb hml hown hts hX hbl hbA hA hK hZ h7 hL hf hl R0 R1 R2 R3 R4 R5 R5c R6 R7 R8 hP hD hS kk
    by_cases c15 : v = 15
    · subst c15
      refine lv_tableIn (off := 570) (tgt := 623) hx hb d_Lw_law_53 (by decide) (by decide) rfl (by decide) ?_
      exact lw_c15 hx hb hml hown hts hX hbl hbA hA hK hZ h7 hL hf hl R0 R1 R2 R3 R4 R5 R5c R6 R7 R8 hP hD hS kk
    by_cases c16 : v = 16
    · subst c16
      refine lv_tableIn (off := 593) (tgt := 646) hx hb d_Lw_law_53 (by decide) (by decide) rfl (by decide) ?_
      exact lw_c16 hx hb hml hown hts hX hbl hbA hA hK hZ h7 hL hf hl R0 R1 R2 R3 R4 R5 R5c R6 R7 R8 hP hD hS kk
    refine lv_tableOut (tgt := 689) hx hb d_Lw_law_53 (by have g0 := ly_ne c0 (by decide : (0 : Int32).toInt = 0); have g1 := ly_ne c1 (by decide : (1 : Int32).toInt = 1); have g2 := ly_ne c2 (by decide : (2 : Int32).toInt = 2); have g3 := ly_ne c3 (by decide : (3 : Int32).toInt = 3); have g4 := ly_ne c4 (by decide : (4 : Int32).toInt = 4); have g5 := ly_ne c5 (by decide : (5 : Int32).toInt = 5); have g6 := ly_ne c6 (by decide : (6 : Int32).toInt = 6); have g7 := ly_ne c7 (by decide : (7 : Int32).toInt = 7); have g8 := ly_ne c8 (by decide : (8 : Int32).toInt = 8); have g9 := ly_ne c9 (by decide : (9 : Int32).toInt = 9); have g10 := ly_ne c10 (by decide : (10 : Int32).toInt = 10); have g11 := ly_ne c11 (by decide : (11 : Int32).toInt = 11); have g12 := ly_ne c12 (by decide : (12 : Int32).toInt = 12); have g13 := ly_ne c13 (by decide : (13 : Int32).toInt = 13); have g14 := ly_ne c14 (by decide : (14 : Int32).toInt = 14); have g15 := ly_ne c15 (by decide : (15 : Int32).toInt = 15); have g16 := ly_ne c16 (by decide : (16 : Int32).toInt = 16); omega) (by decide) ?_
    refine W.widen (k := cells + 1) (n := slots + 5) (Nat.le_succ _) (Nat.le_add_right _ _) ?_
    exact kk H locs I hS
