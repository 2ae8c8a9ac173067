theorem lw_head {p : Program} {l : Launch} {e : Env} {s : State} {m : MethodId} {below : List Frame} {meth : Method} {c : Code} {b L : Nat} {xs : Nat → Int32} {G : GG} {A : Nat → Prop} {Xh Mh : Nat} (hx : p.tables.exec = Jvm.exec) (hb : c.code = b_Lw_law) (hml : c.maxLocals = 4) (hown : s.vm.findClass R_Lw = some m.cls) (hts : ∀ w ∈ wG, w.before #[Value.ref b] s = true) (hX : va_X b L xs s s.heap) (hbl : b < s.heap.size) (hbA : ¬ A b) (hA : ∀ q, s.heap.size ≤ q → A q) (hAe : ∀ q, A q → s.heap.size ≤ q) (hK : va_K G.1 classes (tysG G) s) (hZ : Zs G A s s.heap) (hL : L ≤ 3586) (hr : meth.sig.returnType = ret) (hlocks : meth.locks = false) {H : Heap} {locs : List Loc} {cells slots j : Nat} {ls : Array Slot} (hj : j < 2 ^ 30) (hS : va_S A s.heap H locs) (hl : lv_has ls 4 [(3, .int (nI j)), (2, .ref Mh), (1, .ref Xh), (0, .ref b)]) (hc : cells ≤ 600000) (hs : slots ≤ 7302250) (kk : j + 7 ≤ L → W p l e room_1 s m #[Value.ref b] below meth c H locs cells slots (lw_Z below #[Value.ref b] s) (F0 m 53 ls [.int (xs (nI j).toNatClampNeg &&& 31)])) : W p l e room_1 s m #[Value.ref b] below meth c H locs cells slots (lw_Z below #[Value.ref b] s) (F0 m 38 ls []) := by
  refine lv_iload_n hx hb d_Lw_law_38 rfl (lv_at hl 0 rfl) ?_
  refine lv_aload_n hx hb d_Lw_law_39 rfl (lv_at hl 3 rfl) ?_
  refine va_slen hx hb hX hbl hbA hS d_Lw_law_40 ?_
  refine lv_bipush (v := 7) hx hb d_Lw_law_41 (by decide) ?_
  refine lv_isub hx hb d_Lw_law_43 ?_
  refine lv_icmp_gt (tgt := 695) hx hb d_Lw_law_44 (by decide) (fun c1 => ?_) (fun c1 => ?_)
  · refine lv_iconst (v := 1) hx hb d_Lw_law_695 (by decide) ?_
    refine va_forget (fun q hq => hAe _ (hS.2.2 q hq)) ?_
    refine W.widen (k := 600000) (n := 7302250) hc hs ?_
    exact lw_ret hx hb hr hlocks d_Lw_law_696
  · have h7 : j + 7 ≤ L := by
      rw [Int32.lt_iff_toInt_lt, nI_toInt (by omega)] at c1
      have e : (Int32.ofNat L - 7).toInt = (L : Int) - 7 := by
        rw [Int32.toInt_sub, show (Int32.ofNat L).toInt = (L : Int) from nI_toInt (by omega), show (7 : Int32).toInt = 7 by decide]
        exact Int.bmod_eq_of_le (by omega) (by omega)
      rw [e] at c1
      omega
    refine lv_aload_n hx hb d_Lw_law_47 rfl (lv_at hl 3 rfl) ?_
    refine lv_iload_n hx hb d_Lw_law_48 rfl (lv_at hl 0 rfl) ?_
    refine va_sld hx hb hX hbl hbA hS (vp_in_nI (by omega) (by omega)) d_Lw_law_49 ?_
    refine lv_bipush (v := 31) hx hb d_Lw_law_50 (by decide) ?_
    refine lv_iand hx hb d_Lw_law_52 ?_
    exact kk h7
theorem lw_tail {p : Program} {l : Launch} {e : Env} {s : State} {m : MethodId} {below : List Frame} {meth : Method} {c : Code} {b Xh Mh : Nat} {H : Heap} {locs : List Loc} {cells slots j : Nat} {ls : Array Slot} {Q : State → Prop} (hx : p.tables.exec = Jvm.exec) (hb : c.code = b_Lw_law) (hl : lv_has ls 4 [(3, .int (nI j)), (2, .ref Mh), (1, .ref Xh), (0, .ref b)]) (kk : ∀ ls' : Array Slot, lv_has ls' 4 [(3, .int (nI (j + 7))), (2, .ref Mh), (1, .ref Xh), (0, .ref b)] → W p l e room_1 s m #[Value.ref b] below meth c H locs cells slots Q (F0 m 38 ls' [])) : W p l e room_1 s m #[Value.ref b] below meth c H locs cells slots Q (F0 m 689 ls []) := by
  refine lv_iinc (v := nI (j + 7)) (lv' := [(3, .int (nI (j + 7))), (2, .ref Mh), (1, .ref Xh), (0, .ref b)]) hx hb d_Lw_law_689 hl (k := 0) rfl (nI_add j 7) (by decide) rfl (fun ls hl => ?_)
  refine lv_goto (tgt := 38) hx hb d_Lw_law_692 (by decide) ?_
  exact kk ls hl
set_option maxHeartbeats 40000000 in
set_option maxRecDepth 100000 in
theorem lw_loop {p : Program} {l : Launch} {e : Env} {s : State} {m : MethodId} {below : List Frame} {meth : Method} {c : Code} {b L : Nat} {xs : Nat → Int32} {G : GG} {A : Nat → Prop} {Xh Mh : Nat} (hx : p.tables.exec = Jvm.exec) (hb : c.code = b_Lw_law) (hml : c.maxLocals = 4) (hown : s.vm.findClass R_Lw = some m.cls) (hts : ∀ w ∈ wG, w.before #[Value.ref b] s = true) (hX : va_X b L xs s s.heap) (hbl : b < s.heap.size) (hbA : ¬ A b) (hA : ∀ q, s.heap.size ≤ q → A q) (hAe : ∀ q, A q → s.heap.size ≤ q) (hK : va_K G.1 classes (tysG G) s) (hZ : Zs G A s s.heap) (hL : L ≤ 3586) (hr : meth.sig.returnType = ret) (hlocks : meth.locks = false) : ∀ (n j : Nat), L < j + 7 * n → j < 2 ^ 29 → ∀ (H : Heap) (locs : List Loc) (cells slots : Nat) (ls : Array Slot), LwI G A Xh Mh H → va_S A s.heap H locs → lv_has ls 4 [(3, .int (nI j)), (2, .ref Mh), (1, .ref Xh), (0, .ref b)] → cells + n ≤ 600000 → slots + 5 * n ≤ 7302250 → W p l e room_1 s m #[Value.ref b] below meth c H locs cells slots (lw_Z below #[Value.ref b] s) (F0 m 38 ls []) := by
  intro n
  induction n with
  | zero =>
    intro j h1 h2 H locs cells slots ls I hS hl hc hs
    exact lw_head hx hb hml hown hts hX hbl hbA hA hAe hK hZ hL hr hlocks (by omega) hS hl (by omega) (by omega) (fun h7 => absurd h7 (by omega))
  | succ n ih =>
    intro j h1 h2 H locs cells slots ls I hS hl hc hs
    refine lw_head hx hb hml hown hts hX hbl hbA hA hAe hK hZ hL hr hlocks (by omega) hS hl (by omega) (by omega) (fun h7 => ?_)
    have hf : cells + 1 ≤ room_1.cells ∧ slots + 5 ≤ room_1.slots := ⟨show cells + 1 ≤ 600000 by omega, show slots + 5 ≤ 7302250 by omega⟩
    have kk : ∀ (H1 : Heap) (locs1 : List Loc), LwI G A Xh Mh H1 → va_S A s.heap H1 locs1 → W p l e room_1 s m #[Value.ref b] below meth c H1 locs1 (cells + 1) (slots + 5) (lw_Z below #[Value.ref b] s) (F0 m 689 ls []) := fun H1 locs1 I1 hS1 => lw_tail hx hb hl (fun ls1 hl1 => ih (j + 7) (by omega) (by omega) H1 locs1 (cells + 1) (slots + 5) ls1 I1 hS1 hl1 (by omega) (by omega))
    have J := I
    unfold LwI at J
    refine Exists.elim J (fun P_ J => ?_)
    refine Exists.elim J (fun Z_ J => ?_)
    refine Exists.elim J (fun Xtable_h J => ?_)
    refine Exists.elim J (fun Xtable_a_numbers J => ?_)
    refine Exists.elim J (fun Xtape_h J => ?_)
    refine Exists.elim J (fun Xtape_a_cells J => ?_)
    refine Exists.elim J (fun Xpurses_h J => ?_)
    refine Exists.elim J (fun Xpurses_a_granted J => ?_)
    refine Exists.elim J (fun Xpurses_a_spent J => ?_)
    refine Exists.elim J (fun Xtext_h J => ?_)
    refine Exists.elim J (fun Xtext_a_signs J => ?_)
    refine Exists.elim J (fun Xwritten_h J => ?_)
    refine Exists.elim J (fun Xwritten_a_signs J => ?_)
    refine Exists.elim J (fun Xproduct_h J => ?_)
    refine Exists.elim J (fun Xproduct_a_digits J => ?_)
    refine Exists.elim J (fun Xa_toldNumbers J => ?_)
    refine Exists.elim J (fun Xscript_h J => ?_)
    refine Exists.elim J (fun Xscript_tokens_h J => ?_)
    refine Exists.elim J (fun Xscript_tokens_a_kinds J => ?_)
    refine Exists.elim J (fun Xscript_tokens_a_values J => ?_)
    refine Exists.elim J (fun Xscript_tokens_a_places J => ?_)
    refine Exists.elim J (fun Xscript_conditions_h J => ?_)
    refine Exists.elim J (fun Xscript_conditions_a_steps J => ?_)
    refine Exists.elim J (fun Xscript_conditions_a_values J => ?_)
    refine Exists.elim J (fun Xscript_conditions_a_stack J => ?_)
    refine Exists.elim J (fun Xscript_conditions_a_holding J => ?_)
    refine Exists.elim J (fun Xscript_a_questions J => ?_)
    refine Exists.elim J (fun Xscript_a_letStarts J => ?_)
    refine Exists.elim J (fun Xscript_a_letEnds J => ?_)
    refine Exists.elim J (fun Xscript_a_letOfLetter J => ?_)
    refine Exists.elim J (fun Xspare_h J => ?_)
    refine Exists.elim J (fun Xspare_tokens_h J => ?_)
    refine Exists.elim J (fun Xspare_tokens_a_kinds J => ?_)
    refine Exists.elim J (fun Xspare_tokens_a_values J => ?_)
    refine Exists.elim J (fun Xspare_tokens_a_places J => ?_)
    refine Exists.elim J (fun Xspare_conditions_h J => ?_)
    refine Exists.elim J (fun Xspare_conditions_a_steps J => ?_)
    refine Exists.elim J (fun Xspare_conditions_a_values J => ?_)
    refine Exists.elim J (fun Xspare_conditions_a_stack J => ?_)
    refine Exists.elim J (fun Xspare_conditions_a_holding J => ?_)
    refine Exists.elim J (fun Xspare_a_questions J => ?_)
    refine Exists.elim J (fun Xspare_a_letStarts J => ?_)
    refine Exists.elim J (fun Xspare_a_letEnds J => ?_)
    refine Exists.elim J (fun Xspare_a_letOfLetter J => ?_)
    refine Exists.elim J (fun Ma_table J => ?_)
    refine Exists.elim J (fun Ma_tape J => ?_)
    refine Exists.elim J (fun Ma_budget J => ?_)
    refine Exists.elim J (fun Ma_spent J => ?_)
    refine Exists.elim J (fun Ma_text J => ?_)
    refine Exists.elim J (fun Ma_kinds J => ?_)
    refine Exists.elim J (fun Ma_values J => ?_)
    refine Exists.elim J (fun Ma_scriptKinds J => ?_)
    refine Exists.elim J (fun Ma_scriptValues J => ?_)
    refine Exists.elim J (fun Ma_isTold J => ?_)
    refine Exists.elim J (fun Ma_letOf J => ?_)
    refine Exists.elim J (fun Ma_code J => ?_)
    refine Exists.elim J (fun Ma_letEnd J => ?_)
    refine Exists.elim J (fun Ma_letBegin J => ?_)
    refine Exists.elim J (fun Ma_sort J => ?_)
    refine Exists.elim J (fun Ma_column J => ?_)
    refine Exists.elim J (fun Ma_low J => ?_)
    refine Exists.elim J (fun Ma_high J => ?_)
    refine Exists.elim J (fun Ma_by J => ?_)
    refine Exists.elim J (fun Ma_top J => ?_)
    refine Exists.elim J (fun Ma_begins J => ?_)
    refine Exists.elim J (fun Ma_ends J => ?_)
    refine Exists.elim J (fun Ma_scriptCode J => ?_)
    refine Exists.elim J (fun Ma_scriptLetBegin J => ?_)
    refine Exists.elim J (fun Ma_scriptLetEnd J => ?_)
    refine Exists.elim J (fun Ma_aSort J => ?_)
    refine Exists.elim J (fun Ma_aColumn J => ?_)
    refine Exists.elim J (fun Ma_aLow J => ?_)
    refine Exists.elim J (fun Ma_aHigh J => ?_)
    refine Exists.elim J (fun Ma_aBy J => ?_)
    refine Exists.elim J (fun Ma_aTop J => ?_)
    refine Exists.elim J (fun Ma_aBegin J => ?_)
    refine Exists.elim J (fun Ma_anEnd J => ?_)
    refine Exists.elim J (fun Ma_told J => ?_)
    refine Exists.elim J (fun Ma_out J => ?_)
    refine Exists.elim J (fun Ma_goals J => ?_)
    refine Exists.elim J (fun Ma_withs J => ?_)
    refine Exists.elim J (fun Ma_pile J => ?_)
    refine Exists.elim J (fun Ma_letValue J => ?_)
    refine Exists.elim J (fun Ma_one J => ?_)
    refine Exists.elim J (fun Ma_two J => ?_)
    refine Exists.elim J (fun Xtable_f_numbers J => ?_)
    refine Exists.elim J (fun Xtable__rows J => ?_)
    refine Exists.elim J (fun Xtape_f_cells J => ?_)
    refine Exists.elim J (fun Xtape__size J => ?_)
    refine Exists.elim J (fun Xpurses_f_granted J => ?_)
    refine Exists.elim J (fun Xpurses_f_spent J => ?_)
    refine Exists.elim J (fun Xtext_f_signs J => ?_)
    refine Exists.elim J (fun Xtext__size J => ?_)
    refine Exists.elim J (fun Xwritten_f_signs J => ?_)
    refine Exists.elim J (fun Xwritten__size J => ?_)
    refine Exists.elim J (fun Xproduct_f_digits J => ?_)
    refine Exists.elim J (fun Xproduct__size J => ?_)
    refine Exists.elim J (fun Xf_toldNumbers J => ?_)
    refine Exists.elim J (fun X_toldSize J => ?_)
    refine Exists.elim J (fun Xscript_tokens_f_kinds J => ?_)
    refine Exists.elim J (fun Xscript_tokens_f_values J => ?_)
    refine Exists.elim J (fun Xscript_tokens_f_places J => ?_)
    refine Exists.elim J (fun Xscript_tokens__size J => ?_)
    refine Exists.elim J (fun Xscript_conditions_f_steps J => ?_)
    refine Exists.elim J (fun Xscript_conditions_f_values J => ?_)
    refine Exists.elim J (fun Xscript_conditions__size J => ?_)
    refine Exists.elim J (fun Xscript_conditions_f_stack J => ?_)
    refine Exists.elim J (fun Xscript_conditions__height J => ?_)
    refine Exists.elim J (fun Xscript_conditions_f_holding J => ?_)
    refine Exists.elim J (fun Xscript_qa J => ?_)
    refine Exists.elim J (fun Xscript_Q J => ?_)
    refine Exists.elim J (fun Xscript__asked J => ?_)
    refine Exists.elim J (fun Xscript_f_letStarts J => ?_)
    refine Exists.elim J (fun Xscript_f_letEnds J => ?_)
    refine Exists.elim J (fun Xscript_f_letOfLetter J => ?_)
    refine Exists.elim J (fun Xscript__lets J => ?_)
    refine Exists.elim J (fun Xspare_tokens_f_kinds J => ?_)
    refine Exists.elim J (fun Xspare_tokens_f_values J => ?_)
    refine Exists.elim J (fun Xspare_tokens_f_places J => ?_)
    refine Exists.elim J (fun Xspare_tokens__size J => ?_)
    refine Exists.elim J (fun Xspare_conditions_f_steps J => ?_)
    refine Exists.elim J (fun Xspare_conditions_f_values J => ?_)
    refine Exists.elim J (fun Xspare_conditions__size J => ?_)
    refine Exists.elim J (fun Xspare_conditions_f_stack J => ?_)
    refine Exists.elim J (fun Xspare_conditions__height J => ?_)
    refine Exists.elim J (fun Xspare_conditions_f_holding J => ?_)
    refine Exists.elim J (fun Xspare_qa J => ?_)
    refine Exists.elim J (fun Xspare_Q J => ?_)
    refine Exists.elim J (fun Xspare__asked J => ?_)
    refine Exists.elim J (fun Xspare_f_letStarts J => ?_)
    refine Exists.elim J (fun Xspare_f_letEnds J => ?_)
    refine Exists.elim J (fun Xspare_f_letOfLetter J => ?_)
    refine Exists.elim J (fun Xspare__lets J => ?_)
    refine Exists.elim J (fun X_hasScript J => ?_)
    refine Exists.elim J (fun Mf_table J => ?_)
    refine Exists.elim J (fun M_rows J => ?_)
    refine Exists.elim J (fun Mf_tape J => ?_)
    refine Exists.elim J (fun M_cells J => ?_)
    refine Exists.elim J (fun Mf_budget J => ?_)
    refine Exists.elim J (fun Mf_spent J => ?_)
    refine Exists.elim J (fun Mf_text J => ?_)
    refine Exists.elim J (fun M_signs J => ?_)
    refine Exists.elim J (fun Mf_kinds J => ?_)
    refine Exists.elim J (fun Mf_values J => ?_)
    refine Exists.elim J (fun M_tokens J => ?_)
    refine Exists.elim J (fun Mf_scriptKinds J => ?_)
    refine Exists.elim J (fun Mf_scriptValues J => ?_)
    refine Exists.elim J (fun M_scriptTokens J => ?_)
    refine Exists.elim J (fun M_at J => ?_)
    refine Exists.elim J (fun M_place J => ?_)
    refine Exists.elim J (fun M_kind J => ?_)
    refine Exists.elim J (fun M_value J => ?_)
    refine Exists.elim J (fun M_depth J => ?_)
    refine Exists.elim J (fun M_asked J => ?_)
    refine Exists.elim J (fun M_lets J => ?_)
    refine Exists.elim J (fun M_questions J => ?_)
    refine Exists.elim J (fun M_statements J => ?_)
    refine Exists.elim J (fun Mf_isTold J => ?_)
    refine Exists.elim J (fun Mf_letOf J => ?_)
    refine Exists.elim J (fun Mf_code J => ?_)
    refine Exists.elim J (fun M_size J => ?_)
    refine Exists.elim J (fun Mf_letEnd J => ?_)
    refine Exists.elim J (fun Mf_letBegin J => ?_)
    refine Exists.elim J (fun Mf_sort J => ?_)
    refine Exists.elim J (fun Mf_column J => ?_)
    refine Exists.elim J (fun Mf_low J => ?_)
    refine Exists.elim J (fun Mf_high J => ?_)
    refine Exists.elim J (fun Mf_by J => ?_)
    refine Exists.elim J (fun Mf_top J => ?_)
    refine Exists.elim J (fun Mf_begins J => ?_)
    refine Exists.elim J (fun Mf_ends J => ?_)
    refine Exists.elim J (fun M_scriptLets J => ?_)
    refine Exists.elim J (fun M_scriptQuestions J => ?_)
    refine Exists.elim J (fun Mf_scriptCode J => ?_)
    refine Exists.elim J (fun Mf_scriptLetBegin J => ?_)
    refine Exists.elim J (fun Mf_scriptLetEnd J => ?_)
    refine Exists.elim J (fun Mf_aSort J => ?_)
    refine Exists.elim J (fun Mf_aColumn J => ?_)
    refine Exists.elim J (fun Mf_aLow J => ?_)
    refine Exists.elim J (fun Mf_aHigh J => ?_)
    refine Exists.elim J (fun Mf_aBy J => ?_)
    refine Exists.elim J (fun Mf_aTop J => ?_)
    refine Exists.elim J (fun Mf_aBegin J => ?_)
    refine Exists.elim J (fun Mf_anEnd J => ?_)
    refine Exists.elim J (fun Mf_told J => ?_)
    refine Exists.elim J (fun M_toldCount J => ?_)
    refine Exists.elim J (fun Mf_out J => ?_)
    refine Exists.elim J (fun M_outs J => ?_)
    refine Exists.elim J (fun Mf_goals J => ?_)
    refine Exists.elim J (fun Mf_withs J => ?_)
    refine Exists.elim J (fun M_goalCount J => ?_)
    refine Exists.elim J (fun Mf_pile J => ?_)
    refine Exists.elim J (fun Mf_letValue J => ?_)
    refine Exists.elim J (fun Mf_one J => ?_)
    refine Exists.elim J (fun Mf_two J => ?_)
    have R0 := J.1
    have R1 := J.2.1
    have R2 := J.2.2.1
    have R3 := J.2.2.2.1
    have R4 := J.2.2.2.2.1
    have R5 := J.2.2.2.2.2.1
    have R5c := J.2.2.2.2.2.2.1
    have R6 := J.2.2.2.2.2.2.2.1
    have R7 := J.2.2.2.2.2.2.2.2.1
    have R8 := J.2.2.2.2.2.2.2.2.2.1
    have hP := J.2.2.2.2.2.2.2.2.2.2.1
    have hD := J.2.2.2.2.2.2.2.2.2.2.2
    clear J
    generalize ev : xs (nI j).toNatClampNeg &&& 31 = v
    by_cases c0 : v = 0
    · subst c0
      refine lv_tableIn (off := 83) (tgt := 136) hx hb d_Lw_law_53 (by decide) (by decide) rfl (by decide) ?_
      exact lw_c0 hx hb hml hown hts hX hbl hbA hA hK hZ h7 hL hf hl R0 R1 R2 R3 R4 R5 R5c R6 R7 R8 hP hD hS kk
    by_cases c1 : v = 1
    · subst c1
      refine lv_tableIn (off := 158) (tgt := 211) hx hb d_Lw_law_53 (by decide) (by decide) rfl (by decide) ?_
      exact lw_c1 hx hb hml hown hts hX hbl hbA hA hK hZ h7 hL hf hl R0 R1 R2 R3 R4 R5 R5c R6 R7 R8 hP hD hS kk
    by_cases c2 : v = 2
    · subst c2
      refine lv_tableIn (off := 181) (tgt := 234) hx hb d_Lw_law_53 (by decide) (by decide) rfl (by decide) ?_
      exact lw_c2 hx hb hml hown hts hX hbl hbA hA hK hZ h7 hL hf hl R0 R1 R2 R3 R4 R5 R5c R6 R7 R8 hP hD hS kk
    by_cases c3 : v = 3
    · subst c3
      refine lv_tableIn (off := 214) (tgt := 267) hx hb d_Lw_law_53 (by decide) (by decide) rfl (by decide) ?_
      exact lw_c3 hx hb hml hown hts hX hbl hbA hA hK hZ h7 hL hf hl R0 R1 R2 R3 R4 R5 R5c R6 R7 R8 hP hD hS kk
    by_cases c4 : v = 4
    · subst c4
      refine lv_tableIn (off := 237) (tgt := 290) hx hb d_Lw_law_53 (by decide) (by decide) rfl (by decide) ?_
      exact lw_c4 hx hb hml hown hts hX hbl hbA hA hK hZ h7 hL hf hl R0 R1 R2 R3 R4 R5 R5c R6 R7 R8 hP hD hS kk
    by_cases c5 : v = 5
    · subst c5
      refine lv_tableIn (off := 270) (tgt := 323) hx hb d_Lw_law_53 (by decide) (by decide) rfl (by decide) ?_
      exact lw_c5 hx hb hml hown hts hX hbl hbA hA hK hZ h7 hL hf hl R0 R1 R2 R3 R4 R5 R5c R6 R7 R8 hP hD hS kk
    by_cases c6 : v = 6
    · subst c6
      refine lv_tableIn (off := 303) (tgt := 356) hx hb d_Lw_law_53 (by decide) (by decide) rfl (by decide) ?_
      exact lw_c6 hx hb hml hown hts hX hbl hbA hA hK hZ h7 hL hf hl R0 R1 R2 R3 R4 R5 R5c R6 R7 R8 hP hD hS kk
    by_cases c7 : v = 7
    · subst c7
      refine lv_tableIn (off := 366) (tgt := 419) hx hb d_Lw_law_53 (by decide) (by decide) rfl (by decide) ?_
      exact lw_c7 hx hb hml hown hts hX hbl hbA hA hK hZ h7 hL hf hl R0 R1 R2 R3 R4 R5 R5c R6 R7 R8 hP hD hS kk
    by_cases c8 : v = 8
    · subst c8
      refine lv_tableIn (off := 379) (tgt := 432) hx hb d_Lw_law_53 (by decide) (by decide) rfl (by decide) ?_
      exact lw_c8 hx hb hml hown hts hX hbl hbA hA hK hZ h7 hL hf hl R0 R1 R2 R3 R4 R5 R5c R6 R7 R8 hP hD hS kk
    by_cases c9 : v = 9
    · subst c9
      refine lv_tableIn (off := 412) (tgt := 465) hx hb d_Lw_law_53 (by decide) (by decide) rfl (by decide) ?_
      exact lw_c9 hx hb hml hown hts hX hbl hbA hA hK hZ h7 hL hf hl R0 R1 R2 R3 R4 R5 R5c R6 R7 R8 hP hD hS kk
    by_cases c10 : v = 10
    · subst c10
      refine lv_tableIn (off := 435) (tgt := 488) hx hb d_Lw_law_53 (by decide) (by decide) rfl (by decide) ?_
      exact lw_c10 hx hb hml hown hts hX hbl hbA hA hK hZ h7 hL hf hl R0 R1 R2 R3 R4 R5 R5c R6 R7 R8 hP hD hS kk
    by_cases c11 : v = 11
    · subst c11
      refine lv_tableIn (off := 458) (tgt := 511) hx hb d_Lw_law_53 (by decide) (by decide) rfl (by decide) ?_
      exact lw_c11 hx hb hml hown hts hX hbl hbA hA hK hZ h7 hL hf hl R0 R1 R2 R3 R4 R5 R5c R6 R7 R8 hP hD hS kk
    by_cases c12 : v = 12
    · subst c12
      refine lv_tableIn (off := 481) (tgt := 534) hx hb d_Lw_law_53 (by decide) (by decide) rfl (by decide) ?_
      exact lw_c12 hx hb hml hown hts hX hbl hbA hA hK hZ h7 hL hf hl R0 R1 R2 R3 R4 R5 R5c R6 R7 R8 hP hD hS kk
    by_cases c13 : v = 13
    · subst c13
      refine lv_tableIn (off := 514) (tgt := 567) hx hb d_Lw_law_53 (by decide) (by decide) rfl (by decide) ?_
      exact lw_c13 hx hb hml hown hts hX hbl hbA hA hK hZ h7 hL hf hl R0 R1 R2 R3 R4 R5 R5c R6 R7 R8 hP hD hS kk
    by_cases c14 : v = 14
    · subst c14
      refine lv_tableIn (off := 527) (tgt := 580) hx hb d_Lw_law_53 (by decide) (by decide) rfl (by decide) ?_
      exact lw_c14 hx hb hml hown hts hX hbl hbA hA hK hZ h7 hL hf hl R0 R1 R2 R3 R4 R5 R5c R6 R7 R8 hP hD hS kk
    by_cases c15 : v = 15
    · subst c15
      refine lv_tableIn (off := 570) (tgt := 623) hx hb d_Lw_law_53 (by decide) (by decide) rfl (by decide) ?_
      exact lw_c15 hx hb hml hown hts hX hbl hbA hA hK hZ h7 hL hf hl R0 R1 R2 R3 R4 R5 R5c R6 R7 R8 hP hD hS kk
    by_cases c16 : v = 16
    · subst c16
      refine lv_tableIn (off := 593) (tgt := 646) hx hb d_Lw_law_53 (by decide) (by decide) rfl (by decide) ?_
      exact lw_c16 hx hb hml hown hts hX hbl hbA hA hK hZ h7 hL hf hl R0 R1 R2 R3 R4 R5 R5c R6 R7 R8 hP hD hS kk
    refine lv_tableOut (tgt := 689) hx hb d_Lw_law_53 (by have g0 := ly_ne c0 (by decide : (0 : Int32).toInt = 0); have g1 := ly_ne c1 (by decide : (1 : Int32).toInt = 1); have g2 := ly_ne c2 (by decide : (2 : Int32).toInt = 2); have g3 := ly_ne c3 (by decide : (3 : Int32).toInt = 3); have g4 := ly_ne c4 (by decide : (4 : Int32).toInt = 4); have g5 := ly_ne c5 (by decide : (5 : Int32).toInt = 5); have g6 := ly_ne c6 (by decide : (6 : Int32).toInt = 6); have g7 := ly_ne c7 (by decide : (7 : Int32).toInt = 7); have g8 := ly_ne c8 (by decide : (8 : Int32).toInt = 8); have g9 := ly_ne c9 (by decide : (9 : Int32).toInt = 9); have g10 := ly_ne c10 (by decide : (10 : Int32).toInt = 10); have g11 := ly_ne c11 (by decide : (11 : Int32).toInt = 11); have g12 := ly_ne c12 (by decide : (12 : Int32).toInt = 12); have g13 := ly_ne c13 (by decide : (13 : Int32).toInt = 13); have g14 := ly_ne c14 (by decide : (14 : Int32).toInt = 14); have g15 := ly_ne c15 (by decide : (15 : Int32).toInt = 15); have g16 := ly_ne c16 (by decide : (16 : Int32).toInt = 16); omega) (by decide) ?_
    refine W.widen (k := cells + 1) (n := slots + 5) (Nat.le_succ _) (Nat.le_add_right _ _) ?_
    exact kk H locs I hS
