theorem d_Mo_writeNumber_0 : decode b_Mo_writeNumber 0 = .ok (.iconst 1, 1) := by decide +kernel
theorem d_Mo_writeNumber_1 : decode b_Mo_writeNumber 1 = .ok (.istore_n 2, 1) := by decide +kernel
theorem d_Mo_writeNumber_2 : decode b_Mo_writeNumber 2 = .ok (.iload_n 1, 1) := by decide +kernel
theorem d_Mo_writeNumber_3 : decode b_Mo_writeNumber 3 = .ok (.iload_n 2, 1) := by decide +kernel
theorem d_Mo_writeNumber_4 : decode b_Mo_writeNumber 4 = .ok (.idiv, 1) := by decide +kernel
theorem d_Mo_writeNumber_5 : decode b_Mo_writeNumber 5 = .ok (.bipush 10, 2) := by decide +kernel
theorem d_Mo_writeNumber_7 : decode b_Mo_writeNumber 7 = .ok (.if_icmp .lt 11, 3) := by decide +kernel
theorem d_Mo_writeNumber_10 : decode b_Mo_writeNumber 10 = .ok (.iload_n 2, 1) := by decide +kernel
theorem d_Mo_writeNumber_11 : decode b_Mo_writeNumber 11 = .ok (.bipush 10, 2) := by decide +kernel
theorem d_Mo_writeNumber_13 : decode b_Mo_writeNumber 13 = .ok (.imul, 1) := by decide +kernel
theorem d_Mo_writeNumber_14 : decode b_Mo_writeNumber 14 = .ok (.istore_n 2, 1) := by decide +kernel
theorem d_Mo_writeNumber_15 : decode b_Mo_writeNumber 15 = .ok (.goto (-13), 3) := by decide +kernel
theorem d_Mo_writeNumber_18 : decode b_Mo_writeNumber 18 = .ok (.iload_n 2, 1) := by decide +kernel
theorem d_Mo_writeNumber_19 : decode b_Mo_writeNumber 19 = .ok (.ifCond .le 24, 3) := by decide +kernel
theorem d_Mo_writeNumber_22 : decode b_Mo_writeNumber 22 = .ok (.aload_n 0, 1) := by decide +kernel
theorem d_Mo_writeNumber_23 : decode b_Mo_writeNumber 23 = .ok (.bipush 48, 2) := by decide +kernel
theorem d_Mo_writeNumber_25 : decode b_Mo_writeNumber 25 = .ok (.iload_n 1, 1) := by decide +kernel
theorem d_Mo_writeNumber_26 : decode b_Mo_writeNumber 26 = .ok (.iload_n 2, 1) := by decide +kernel
theorem d_Mo_writeNumber_27 : decode b_Mo_writeNumber 27 = .ok (.idiv, 1) := by decide +kernel
theorem d_Mo_writeNumber_28 : decode b_Mo_writeNumber 28 = .ok (.bipush 10, 2) := by decide +kernel
theorem d_Mo_writeNumber_30 : decode b_Mo_writeNumber 30 = .ok (.irem, 1) := by decide +kernel
theorem d_Mo_writeNumber_31 : decode b_Mo_writeNumber 31 = .ok (.iadd, 1) := by decide +kernel
theorem d_Mo_writeNumber_32 : decode b_Mo_writeNumber 32 = .ok (.invokevirtual 363, 3) := by decide +kernel
theorem d_Mo_writeNumber_35 : decode b_Mo_writeNumber 35 = .ok (.iload_n 2, 1) := by decide +kernel
theorem d_Mo_writeNumber_36 : decode b_Mo_writeNumber 36 = .ok (.bipush 10, 2) := by decide +kernel
theorem d_Mo_writeNumber_38 : decode b_Mo_writeNumber 38 = .ok (.idiv, 1) := by decide +kernel
theorem d_Mo_writeNumber_39 : decode b_Mo_writeNumber 39 = .ok (.istore_n 2, 1) := by decide +kernel
theorem d_Mo_writeNumber_40 : decode b_Mo_writeNumber 40 = .ok (.goto (-22), 3) := by decide +kernel
theorem d_Mo_writeNumber_43 : decode b_Mo_writeNumber 43 = .ok (.return_, 1) := by decide +kernel
theorem k_330 : (.methodLink R_Mo 363 y_Mo_write : Cond) ∈ wG := wGm 1395 (by decide +kernel) (by decide +kernel)
theorem k_331 : (.instanceMethod y_Mo_write : Cond) ∈ wG := wGm 1397 (by decide +kernel) (by decide +kernel)
theorem k_332 : (.selects R_Mo y_Mo_write y_Mo_write : Cond) ∈ wG := wGm 73 (by decide +kernel) (by decide +kernel)
theorem k_333 : (.code y_Mo_write b_Mo_write 2 none : Cond) ∈ wG := wGm 1398 (by decide +kernel) (by decide +kernel)
theorem g_Mo_363 : GoodIn wG (wsV R_Mo 363 R_Mo y_Mo_write w_Mo_write) := wGa (fun w hw => by
  rcases List.mem_cons.mp hw with e | hw
  · exact e ▸ k_330
  rcases List.mem_cons.mp hw with e | hw
  · exact e ▸ k_331
  rcases List.mem_cons.mp hw with e | hw
  · exact e ▸ k_332
  rcases List.mem_cons.mp hw with e | hw
  · exact e ▸ k_185
  · exact absurd hw List.not_mem_nil) (wGc k_333)
def lp_Mo_writeNumber_2 (x : Int32) : Nat → Int32 → Int32
  | 0, t => t
  | n + 1, t =>
    if (x / t) < 10 then t
    else (lp_Mo_writeNumber_2 x n (t * 10))
def oklp_Mo_writeNumber_2 (x : Int32) : Nat → Int32 → Prop
  | 0, _ => False
  | n + 1, t =>
    (¬ t = 0) ∧ (if (x / t) < 10 then (True)
    else ((oklp_Mo_writeNumber_2 x n (t * 10))))
def lp_Mo_writeNumber_18 (x : Int32) : Nat → Int32 → (Nat → Int32) → Int32 → Int32 × (Nat → Int32)
  | 0, _, _, _ => (0, (fun _ => 0))
  | n + 1, t, g, k =>
    if t ≤ 0 then (k, g)
    else (lp_Mo_writeNumber_18 x n (t / 10) (upd g k.toNatClampNeg (48 + ((x / t) - (x / t) / 10 * 10))) (k + 1))
def oklp_Mo_writeNumber_18 (x : Int32) : Nat → Int32 → (Nat → Int32) → Int32 → Prop
  | 0, _, _, _ => False
  | n + 1, t, g, k =>
    if t ≤ 0 then (True)
    else ((¬ t = 0) ∧ ((up k 4199) ∧ ((oklp_Mo_writeNumber_18 x n (t / 10) (upd g k.toNatClampNeg (48 + ((x / t) - (x / t) / 10 * 10))) (k + 1)))))
def s_Mo_writeNumber (f_out : Nat → Int32) (v_outs : Int32) (x : Int32) : Int32 × (Nat → Int32) :=
  let r1 := (lp_Mo_writeNumber_2 x 20 (1 : Int32));
  (lp_Mo_writeNumber_18 x 20 r1 f_out v_outs)
def ok_Mo_writeNumber (f_out : Nat → Int32) (v_outs : Int32) (x : Int32) : Prop :=
  ((oklp_Mo_writeNumber_2 x 20 (1 : Int32))) ∧ (let r1 := (lp_Mo_writeNumber_2 x 20 (1 : Int32));
  (oklp_Mo_writeNumber_18 x 20 r1 f_out v_outs))
set_option maxHeartbeats 4000000 in
set_option maxRecDepth 100000 in
theorem c_Mo_writeNumber (l : Launch) (G : GG) (h : Nat) (a_table : Nat) (a_tape : Nat) (a_budget : Nat) (a_spent : Nat) (a_text : Nat) (a_kinds : Nat) (a_values : Nat) (a_scriptKinds : Nat) (a_scriptValues : Nat) (a_isTold : Nat) (a_letOf : Nat) (a_code : Nat) (a_letEnd : Nat) (a_letBegin : Nat) (a_sort : Nat) (a_column : Nat) (a_low : Nat) (a_high : Nat) (a_by : Nat) (a_top : Nat) (a_begins : Nat) (a_ends : Nat) (a_scriptCode : Nat) (a_scriptLetBegin : Nat) (a_scriptLetEnd : Nat) (a_aSort : Nat) (a_aColumn : Nat) (a_aLow : Nat) (a_aHigh : Nat) (a_aBy : Nat) (a_aTop : Nat) (a_aBegin : Nat) (a_anEnd : Nat) (a_told : Nat) (a_out : Nat) (a_goals : Nat) (a_withs : Nat) (a_pile : Nat) (a_letValue : Nat) (a_one : Nat) (a_two : Nat) (v_p : Int32) (v_q : Int32) (v_rows : Int32) (v_cells : Int32) (v_signs : Int32) (v_tokens : Int32) (v_scriptTokens : Int32) (v_at : Int32) (v_place : Int32) (v_kind : Int32) (v_value : Int32) (v_depth : Int32) (v_asked : Int32) (v_lets : Int32) (v_questions : Int32) (v_statements : Int32) (v_size : Int32) (v_hasScript : Int32) (v_scriptLets : Int32) (v_scriptQuestions : Int32) (v_toldCount : Int32) (f_out : Nat → Int32) (v_outs : Int32) (v_goalCount : Int32) (x : Int32) (hok : ok_Mo_writeNumber f_out v_outs x) : Det l G y_Mo_writeNumber w_Mo_writeNumber (rmD 1) 0 0 [.ref h, .int x] [(h, .inr (12, .int v_p :: .int v_q :: .ref a_table :: .int v_rows :: .ref a_tape :: .int v_cells :: .ref a_budget :: .ref a_spent :: .ref a_text :: .int v_signs :: .ref a_kinds :: .ref a_values :: .int v_tokens :: .ref a_scriptKinds :: .ref a_scriptValues :: .int v_scriptTokens :: .int v_at :: .int v_place :: .int v_kind :: .int v_value :: .int v_depth :: .int v_asked :: .int v_lets :: .int v_questions :: .int v_statements :: .ref a_isTold :: .ref a_letOf :: .ref a_code :: .int v_size :: .ref a_letEnd :: .ref a_letBegin :: .ref a_sort :: .ref a_column :: .ref a_low :: .ref a_high :: .ref a_by :: .ref a_top :: .ref a_begins :: .ref a_ends :: .int v_hasScript :: .int v_scriptLets :: .int v_scriptQuestions :: .ref a_scriptCode :: .ref a_scriptLetBegin :: .ref a_scriptLetEnd :: .ref a_aSort :: .ref a_aColumn :: .ref a_aLow :: .ref a_aHigh :: .ref a_aBy :: .ref a_aTop :: .ref a_aBegin :: .ref a_anEnd :: .ref a_told :: .int v_toldCount :: .ref a_out :: .int v_outs :: .ref a_goals :: .ref a_withs :: .int v_goalCount :: .ref a_pile :: .ref a_letValue :: .ref a_one :: .ref a_two :: [])), (a_out, .inl (gI G, 4200, .inl f_out))] none [(h, .inr (12, .int v_p :: .int v_q :: .ref a_table :: .int v_rows :: .ref a_tape :: .int v_cells :: .ref a_budget :: .ref a_spent :: .ref a_text :: .int v_signs :: .ref a_kinds :: .ref a_values :: .int v_tokens :: .ref a_scriptKinds :: .ref a_scriptValues :: .int v_scriptTokens :: .int v_at :: .int v_place :: .int v_kind :: .int v_value :: .int v_depth :: .int v_asked :: .int v_lets :: .int v_questions :: .int v_statements :: .ref a_isTold :: .ref a_letOf :: .ref a_code :: .int v_size :: .ref a_letEnd :: .ref a_letBegin :: .ref a_sort :: .ref a_column :: .ref a_low :: .ref a_high :: .ref a_by :: .ref a_top :: .ref a_begins :: .ref a_ends :: .int v_hasScript :: .int v_scriptLets :: .int v_scriptQuestions :: .ref a_scriptCode :: .ref a_scriptLetBegin :: .ref a_scriptLetEnd :: .ref a_aSort :: .ref a_aColumn :: .ref a_aLow :: .ref a_aHigh :: .ref a_aBy :: .ref a_aTop :: .ref a_aBegin :: .ref a_anEnd :: .ref a_told :: .int v_toldCount :: .ref a_out :: .int (s_Mo_writeNumber f_out v_outs x).1 :: .ref a_goals :: .ref a_withs :: .int v_goalCount :: .ref a_pile :: .ref a_letValue :: .ref a_one :: .ref a_two :: [])), (a_out, .inl (gI G, 4200, .inl (s_Mo_writeNumber f_out v_outs x).2))] := by
  refine Det.of (cc := b_Mo_writeNumber) (maxL := 3) (ret := none) (by decide) rfl (Nat.le_of_ble_eq_true rfl) ?_
  intro p e s m args below meth c A ls hx hb hr hml hown hts hlocks hin hA hK hZ hP hD hS hl
  have hts : ∀ w ∈ wG, w.before args s = true := fun w h => hts w (List.mem_cons_of_mem _ h)
  have hown : s.vm.findClass R_Mo = some m.cls := hown
  have loop_2 : ∀ (Q : State → Prop) (n : Nat) (t : Int32), (oklp_Mo_writeNumber_2 x n t) → ∀ (H : Heap) (locs : List Loc) (ls : Array Slot), va_P G.1 classes [(h, .inr (12, .int v_p :: .int v_q :: .ref a_table :: .int v_rows :: .ref a_tape :: .int v_cells :: .ref a_budget :: .ref a_spent :: .ref a_text :: .int v_signs :: .ref a_kinds :: .ref a_values :: .int v_tokens :: .ref a_scriptKinds :: .ref a_scriptValues :: .int v_scriptTokens :: .int v_at :: .int v_place :: .int v_kind :: .int v_value :: .int v_depth :: .int v_asked :: .int v_lets :: .int v_questions :: .int v_statements :: .ref a_isTold :: .ref a_letOf :: .ref a_code :: .int v_size :: .ref a_letEnd :: .ref a_letBegin :: .ref a_sort :: .ref a_column :: .ref a_low :: .ref a_high :: .ref a_by :: .ref a_top :: .ref a_begins :: .ref a_ends :: .int v_hasScript :: .int v_scriptLets :: .int v_scriptQuestions :: .ref a_scriptCode :: .ref a_scriptLetBegin :: .ref a_scriptLetEnd :: .ref a_aSort :: .ref a_aColumn :: .ref a_aLow :: .ref a_aHigh :: .ref a_aBy :: .ref a_aTop :: .ref a_aBegin :: .ref a_anEnd :: .ref a_told :: .int v_toldCount :: .ref a_out :: .int v_outs :: .ref a_goals :: .ref a_withs :: .int v_goalCount :: .ref a_pile :: .ref a_letValue :: .ref a_one :: .ref a_two :: [])), (a_out, .inl (gI G, 4200, .inl f_out))] H → va_D A [(h, .inr (12, .int v_p :: .int v_q :: .ref a_table :: .int v_rows :: .ref a_tape :: .int v_cells :: .ref a_budget :: .ref a_spent :: .ref a_text :: .int v_signs :: .ref a_kinds :: .ref a_values :: .int v_tokens :: .ref a_scriptKinds :: .ref a_scriptValues :: .int v_scriptTokens :: .int v_at :: .int v_place :: .int v_kind :: .int v_value :: .int v_depth :: .int v_asked :: .int v_lets :: .int v_questions :: .int v_statements :: .ref a_isTold :: .ref a_letOf :: .ref a_code :: .int v_size :: .ref a_letEnd :: .ref a_letBegin :: .ref a_sort :: .ref a_column :: .ref a_low :: .ref a_high :: .ref a_by :: .ref a_top :: .ref a_begins :: .ref a_ends :: .int v_hasScript :: .int v_scriptLets :: .int v_scriptQuestions :: .ref a_scriptCode :: .ref a_scriptLetBegin :: .ref a_scriptLetEnd :: .ref a_aSort :: .ref a_aColumn :: .ref a_aLow :: .ref a_aHigh :: .ref a_aBy :: .ref a_aTop :: .ref a_aBegin :: .ref a_anEnd :: .ref a_told :: .int v_toldCount :: .ref a_out :: .int v_outs :: .ref a_goals :: .ref a_withs :: .int v_goalCount :: .ref a_pile :: .ref a_letValue :: .ref a_one :: .ref a_two :: [])), (a_out, .inl (gI G, 4200, .inl f_out))] → va_S A s.heap H locs → lv_has ls 3 [(2, .int t), (0, .ref h), (1, .int x)] → (∀ (H : Heap) (locs : List Loc) (ls : Array Slot), va_P G.1 classes [(h, .inr (12, .int v_p :: .int v_q :: .ref a_table :: .int v_rows :: .ref a_tape :: .int v_cells :: .ref a_budget :: .ref a_spent :: .ref a_text :: .int v_signs :: .ref a_kinds :: .ref a_values :: .int v_tokens :: .ref a_scriptKinds :: .ref a_scriptValues :: .int v_scriptTokens :: .int v_at :: .int v_place :: .int v_kind :: .int v_value :: .int v_depth :: .int v_asked :: .int v_lets :: .int v_questions :: .int v_statements :: .ref a_isTold :: .ref a_letOf :: .ref a_code :: .int v_size :: .ref a_letEnd :: .ref a_letBegin :: .ref a_sort :: .ref a_column :: .ref a_low :: .ref a_high :: .ref a_by :: .ref a_top :: .ref a_begins :: .ref a_ends :: .int v_hasScript :: .int v_scriptLets :: .int v_scriptQuestions :: .ref a_scriptCode :: .ref a_scriptLetBegin :: .ref a_scriptLetEnd :: .ref a_aSort :: .ref a_aColumn :: .ref a_aLow :: .ref a_aHigh :: .ref a_aBy :: .ref a_aTop :: .ref a_aBegin :: .ref a_anEnd :: .ref a_told :: .int v_toldCount :: .ref a_out :: .int v_outs :: .ref a_goals :: .ref a_withs :: .int v_goalCount :: .ref a_pile :: .ref a_letValue :: .ref a_one :: .ref a_two :: [])), (a_out, .inl (gI G, 4200, .inl f_out))] H → va_D A [(h, .inr (12, .int v_p :: .int v_q :: .ref a_table :: .int v_rows :: .ref a_tape :: .int v_cells :: .ref a_budget :: .ref a_spent :: .ref a_text :: .int v_signs :: .ref a_kinds :: .ref a_values :: .int v_tokens :: .ref a_scriptKinds :: .ref a_scriptValues :: .int v_scriptTokens :: .int v_at :: .int v_place :: .int v_kind :: .int v_value :: .int v_depth :: .int v_asked :: .int v_lets :: .int v_questions :: .int v_statements :: .ref a_isTold :: .ref a_letOf :: .ref a_code :: .int v_size :: .ref a_letEnd :: .ref a_letBegin :: .ref a_sort :: .ref a_column :: .ref a_low :: .ref a_high :: .ref a_by :: .ref a_top :: .ref a_begins :: .ref a_ends :: .int v_hasScript :: .int v_scriptLets :: .int v_scriptQuestions :: .ref a_scriptCode :: .ref a_scriptLetBegin :: .ref a_scriptLetEnd :: .ref a_aSort :: .ref a_aColumn :: .ref a_aLow :: .ref a_aHigh :: .ref a_aBy :: .ref a_aTop :: .ref a_aBegin :: .ref a_anEnd :: .ref a_told :: .int v_toldCount :: .ref a_out :: .int v_outs :: .ref a_goals :: .ref a_withs :: .int v_goalCount :: .ref a_pile :: .ref a_letValue :: .ref a_one :: .ref a_two :: [])), (a_out, .inl (gI G, 4200, .inl f_out))] → va_S A s.heap H locs → lv_has ls 3 [(2, .int ((lp_Mo_writeNumber_2 x n t))), (0, .ref h), (1, .int x)] → W p l e (rmD 1) s m args below meth c H locs 0 0 Q (F0 m 18 ls [])) → W p l e (rmD 1) s m args below meth c H locs 0 0 Q (F0 m 2 ls []) := by
    intro Q
    intro n
    induction n with
    | zero => intro t hok; exact absurd hok (fun h => h)
    | succ n ih =>
      intro t hok H locs ls hP hD hS hl kk
      rw [oklp_Mo_writeNumber_2] at hok
      refine lv_iload_n hx hb d_Mo_writeNumber_2 rfl (lv_at hl 2 rfl) ?_
      refine lv_iload_n hx hb d_Mo_writeNumber_3 rfl (lv_at hl 0 rfl) ?_
      obtain ⟨hv1, hok⟩ := hok
      refine lv_idiv hx hb d_Mo_writeNumber_4 hv1 ?_
      refine lv_bipush (v := 10) hx hb d_Mo_writeNumber_5 (by decide) ?_
      refine lv_icmp_lt (tgt := 18) hx hb d_Mo_writeNumber_7 (by decide) (fun c1 => ?_) (fun c1 => ?_)
      · skip
        rw [if_pos c1] at hok
        have e_ : (lp_Mo_writeNumber_2 x (n + 1) t) = t := (by rw [lp_Mo_writeNumber_2, if_pos c1])
        rw [e_] at kk
        exact kk _ _ _ hP hD hS (lv_sub hl [0, 1, 2] rfl)
      rw [if_neg c1] at hok
      refine lv_iload_n hx hb d_Mo_writeNumber_10 rfl (lv_at hl 0 rfl) ?_
      refine lv_bipush (v := 10) hx hb d_Mo_writeNumber_11 (by decide) ?_
      refine lv_imul hx hb d_Mo_writeNumber_13 ?_
      refine lv_istore_n (lv' := [(2, .int (t * 10)), (0, .ref h), (1, .int x)]) hx hb d_Mo_writeNumber_14 rfl hl (by decide) rfl (fun ls hl => ?_)
      refine lv_goto (tgt := 2) hx hb d_Mo_writeNumber_15 (by decide) ?_
      have e_ : (lp_Mo_writeNumber_2 x (n + 1) t) = (lp_Mo_writeNumber_2 x n (t * 10)) := (by rw [lp_Mo_writeNumber_2, if_neg c1])
      rw [e_] at kk
      exact ih (t * 10) hok _ _ _ hP hD hS (lv_sub hl [0, 1, 2] rfl) kk
  have loop_18 : ∀ (n : Nat) (t : Int32) (g : Nat → Int32) (k : Int32), (oklp_Mo_writeNumber_18 x n t g k) → ∀ (H : Heap) (locs : List Loc) (ls : Array Slot), va_P G.1 classes [(h, .inr (12, .int v_p :: .int v_q :: .ref a_table :: .int v_rows :: .ref a_tape :: .int v_cells :: .ref a_budget :: .ref a_spent :: .ref a_text :: .int v_signs :: .ref a_kinds :: .ref a_values :: .int v_tokens :: .ref a_scriptKinds :: .ref a_scriptValues :: .int v_scriptTokens :: .int v_at :: .int v_place :: .int v_kind :: .int v_value :: .int v_depth :: .int v_asked :: .int v_lets :: .int v_questions :: .int v_statements :: .ref a_isTold :: .ref a_letOf :: .ref a_code :: .int v_size :: .ref a_letEnd :: .ref a_letBegin :: .ref a_sort :: .ref a_column :: .ref a_low :: .ref a_high :: .ref a_by :: .ref a_top :: .ref a_begins :: .ref a_ends :: .int v_hasScript :: .int v_scriptLets :: .int v_scriptQuestions :: .ref a_scriptCode :: .ref a_scriptLetBegin :: .ref a_scriptLetEnd :: .ref a_aSort :: .ref a_aColumn :: .ref a_aLow :: .ref a_aHigh :: .ref a_aBy :: .ref a_aTop :: .ref a_aBegin :: .ref a_anEnd :: .ref a_told :: .int v_toldCount :: .ref a_out :: .int k :: .ref a_goals :: .ref a_withs :: .int v_goalCount :: .ref a_pile :: .ref a_letValue :: .ref a_one :: .ref a_two :: [])), (a_out, .inl (gI G, 4200, .inl g))] H → va_D A [(h, .inr (12, .int v_p :: .int v_q :: .ref a_table :: .int v_rows :: .ref a_tape :: .int v_cells :: .ref a_budget :: .ref a_spent :: .ref a_text :: .int v_signs :: .ref a_kinds :: .ref a_values :: .int v_tokens :: .ref a_scriptKinds :: .ref a_scriptValues :: .int v_scriptTokens :: .int v_at :: .int v_place :: .int v_kind :: .int v_value :: .int v_depth :: .int v_asked :: .int v_lets :: .int v_questions :: .int v_statements :: .ref a_isTold :: .ref a_letOf :: .ref a_code :: .int v_size :: .ref a_letEnd :: .ref a_letBegin :: .ref a_sort :: .ref a_column :: .ref a_low :: .ref a_high :: .ref a_by :: .ref a_top :: .ref a_begins :: .ref a_ends :: .int v_hasScript :: .int v_scriptLets :: .int v_scriptQuestions :: .ref a_scriptCode :: .ref a_scriptLetBegin :: .ref a_scriptLetEnd :: .ref a_aSort :: .ref a_aColumn :: .ref a_aLow :: .ref a_aHigh :: .ref a_aBy :: .ref a_aTop :: .ref a_aBegin :: .ref a_anEnd :: .ref a_told :: .int v_toldCount :: .ref a_out :: .int k :: .ref a_goals :: .ref a_withs :: .int v_goalCount :: .ref a_pile :: .ref a_letValue :: .ref a_one :: .ref a_two :: [])), (a_out, .inl (gI G, 4200, .inl g))] → va_S A s.heap H locs → lv_has ls 3 [(2, .int t), (0, .ref h), (1, .int x)] → W p l e (rmD 1) s m args below meth c H locs 0 0 (MQ below (ly_Q G A none [(h, .inr (12, .int v_p :: .int v_q :: .ref a_table :: .int v_rows :: .ref a_tape :: .int v_cells :: .ref a_budget :: .ref a_spent :: .ref a_text :: .int v_signs :: .ref a_kinds :: .ref a_values :: .int v_tokens :: .ref a_scriptKinds :: .ref a_scriptValues :: .int v_scriptTokens :: .int v_at :: .int v_place :: .int v_kind :: .int v_value :: .int v_depth :: .int v_asked :: .int v_lets :: .int v_questions :: .int v_statements :: .ref a_isTold :: .ref a_letOf :: .ref a_code :: .int v_size :: .ref a_letEnd :: .ref a_letBegin :: .ref a_sort :: .ref a_column :: .ref a_low :: .ref a_high :: .ref a_by :: .ref a_top :: .ref a_begins :: .ref a_ends :: .int v_hasScript :: .int v_scriptLets :: .int v_scriptQuestions :: .ref a_scriptCode :: .ref a_scriptLetBegin :: .ref a_scriptLetEnd :: .ref a_aSort :: .ref a_aColumn :: .ref a_aLow :: .ref a_aHigh :: .ref a_aBy :: .ref a_aTop :: .ref a_aBegin :: .ref a_anEnd :: .ref a_told :: .int v_toldCount :: .ref a_out :: .int (lp_Mo_writeNumber_18 x n t g k).1 :: .ref a_goals :: .ref a_withs :: .int v_goalCount :: .ref a_pile :: .ref a_letValue :: .ref a_one :: .ref a_two :: [])), (a_out, .inl (gI G, 4200, .inl (lp_Mo_writeNumber_18 x n t g k).2))]) args s 0 0 A) (F0 m 18 ls []) := by
    intro n
    induction n with
    | zero => intro t g k hok; exact absurd hok (fun h => h)
    | succ n ih =>
      intro t g k hok H locs ls hP hD hS hl
      rw [oklp_Mo_writeNumber_18] at hok
      refine lv_iload_n hx hb d_Mo_writeNumber_18 rfl (lv_at hl 0 rfl) ?_
      refine lv_if_le (tgt := 43) hx hb d_Mo_writeNumber_19 (by decide) (fun c1 => ?_) (fun c1 => ?_)
      · skip
        rw [if_pos c1] at hok
        exact ly_vret hx hb hr hlocks hP hD hS d_Mo_writeNumber_43 rfl (by rw [lp_Mo_writeNumber_18, if_pos c1])
      rw [if_neg c1] at hok
      refine lv_aload_n hx hb d_Mo_writeNumber_22 rfl (lv_at hl 1 rfl) ?_
      refine lv_bipush (v := 48) hx hb d_Mo_writeNumber_23 (by decide) ?_
      refine lv_iload_n hx hb d_Mo_writeNumber_25 rfl (lv_at hl 2 rfl) ?_
      refine lv_iload_n hx hb d_Mo_writeNumber_26 rfl (lv_at hl 0 rfl) ?_
      obtain ⟨hv1, hok⟩ := hok
      refine lv_idiv hx hb d_Mo_writeNumber_27 hv1 ?_
      refine lv_bipush (v := 10) hx hb d_Mo_writeNumber_28 (by decide) ?_
      refine lv_irem hx hb d_Mo_writeNumber_30 (by decide) ?_
      refine lv_iadd hx hb d_Mo_writeNumber_31 ?_
      obtain ⟨hv2, hok⟩ := hok
      refine ly_callV (rest := []) (wf := [(h, .inr (12, .int v_p :: .int v_q :: .ref a_table :: .int v_rows :: .ref a_tape :: .int v_cells :: .ref a_budget :: .ref a_spent :: .ref a_text :: .int v_signs :: .ref a_kinds :: .ref a_values :: .int v_tokens :: .ref a_scriptKinds :: .ref a_scriptValues :: .int v_scriptTokens :: .int v_at :: .int v_place :: .int v_kind :: .int v_value :: .int v_depth :: .int v_asked :: .int v_lets :: .int v_questions :: .int v_statements :: .ref a_isTold :: .ref a_letOf :: .ref a_code :: .int v_size :: .ref a_letEnd :: .ref a_letBegin :: .ref a_sort :: .ref a_column :: .ref a_low :: .ref a_high :: .ref a_by :: .ref a_top :: .ref a_begins :: .ref a_ends :: .int v_hasScript :: .int v_scriptLets :: .int v_scriptQuestions :: .ref a_scriptCode :: .ref a_scriptLetBegin :: .ref a_scriptLetEnd :: .ref a_aSort :: .ref a_aColumn :: .ref a_aLow :: .ref a_aHigh :: .ref a_aBy :: .ref a_aTop :: .ref a_aBegin :: .ref a_anEnd :: .ref a_told :: .int v_toldCount :: .ref a_out :: .int (k + 1) :: .ref a_goals :: .ref a_withs :: .int v_goalCount :: .ref a_pile :: .ref a_letValue :: .ref a_one :: .ref a_two :: [])), (a_out, .inl (gI G, 4200, .inl (upd g k.toNatClampNeg (48 + ((x / t) - (x / t) / 10 * 10)))))]) ⟨hx, hb, hml, hown, hts⟩ hA hK hZ hP hD hS (c_Mo_write l G h a_table a_tape a_budget a_spent a_text a_kinds a_values a_scriptKinds a_scriptValues a_isTold a_letOf a_code a_letEnd a_letBegin a_sort a_column a_low a_high a_by a_top a_begins a_ends a_scriptCode a_scriptLetBegin a_scriptLetEnd a_aSort a_aColumn a_aLow a_aHigh a_aBy a_aTop a_aBegin a_anEnd a_told a_out a_goals a_withs a_pile a_letValue a_one a_two v_p v_q v_rows v_cells v_signs v_tokens v_scriptTokens v_at v_place v_kind v_value v_depth v_asked v_lets v_questions v_statements v_size v_hasScript v_scriptLets v_scriptQuestions v_toldCount g k v_goalCount (48 + ((x / t) - (x / t) / 10 * 10)) hv2) (cwV 1 hts g_Mo_363 rfl rfl rfl (by decide +kernel) ⟨Nat.le_of_ble_eq_true rfl, Nat.le_of_ble_eq_true rfl⟩) (ci := 12) (q0 := 0) rfl rfl rfl [0, 1] rfl (by decide) rfl rfl rfl hl.1 rfl (Nat.le_of_ble_eq_true rfl) d_Mo_writeNumber_32 ⟨Nat.le_of_ble_eq_true rfl, Nat.le_of_ble_eq_true rfl⟩ (st1 := []) (c1 := 0) (s1 := 0) rfl rfl rfl (fun H locs hP hD hS => ?_)
      refine lv_iload_n hx hb d_Mo_writeNumber_35 rfl (lv_at hl 0 rfl) ?_
      refine lv_bipush (v := 10) hx hb d_Mo_writeNumber_36 (by decide) ?_
      refine lv_idiv hx hb d_Mo_writeNumber_38 (by decide) ?_
      refine lv_istore_n (lv' := [(2, .int (t / 10)), (0, .ref h), (1, .int x)]) hx hb d_Mo_writeNumber_39 rfl hl (by decide) rfl (fun ls hl => ?_)
      refine lv_goto (tgt := 18) hx hb d_Mo_writeNumber_40 (by decide) ?_
      have e_ : (lp_Mo_writeNumber_18 x (n + 1) t g k) = (lp_Mo_writeNumber_18 x n (t / 10) (upd g k.toNatClampNeg (48 + ((x / t) - (x / t) / 10 * 10))) (k + 1)) := (by rw [lp_Mo_writeNumber_18, if_neg c1])
      rw [e_]
      exact ih (t / 10) (upd g k.toNatClampNeg (48 + ((x / t) - (x / t) / 10 * 10))) (k + 1) hok _ _ _ hP hD hS (lv_sub hl [0, 1, 2] rfl)
  have hl : lv_has ls 3 [(0, .ref h), (1, .int x)] := hl
  rw [ok_Mo_writeNumber] at hok
  refine lv_iconst (v := 1) hx hb d_Mo_writeNumber_0 (by decide) ?_
  refine lv_istore_n (lv' := [(2, .int 1), (0, .ref h), (1, .int x)]) hx hb d_Mo_writeNumber_1 rfl hl (by decide) rfl (fun ls hl => ?_)
  obtain ⟨hlp_r1, hok⟩ := hok
  obtain ⟨r1, hr1⟩ : ∃ r, (lp_Mo_writeNumber_2 x 20 (1 : Int32)) = r := ⟨_, rfl⟩
  try simp only [hr1] at hok
  refine loop_2 _ 20 (1 : Int32) hlp_r1 _ _ _ hP hD hS (lv_sub hl [0, 1, 2] rfl) (fun H locs ls hP hD hS hl => ?_)
  try rw [hr1] at hP
  try rw [hr1] at hD
  try rw [hr1] at hl
  have hP : va_P G.1 classes [(h, .inr (12, .int v_p :: .int v_q :: .ref a_table :: .int v_rows :: .ref a_tape :: .int v_cells :: .ref a_budget :: .ref a_spent :: .ref a_text :: .int v_signs :: .ref a_kinds :: .ref a_values :: .int v_tokens :: .ref a_scriptKinds :: .ref a_scriptValues :: .int v_scriptTokens :: .int v_at :: .int v_place :: .int v_kind :: .int v_value :: .int v_depth :: .int v_asked :: .int v_lets :: .int v_questions :: .int v_statements :: .ref a_isTold :: .ref a_letOf :: .ref a_code :: .int v_size :: .ref a_letEnd :: .ref a_letBegin :: .ref a_sort :: .ref a_column :: .ref a_low :: .ref a_high :: .ref a_by :: .ref a_top :: .ref a_begins :: .ref a_ends :: .int v_hasScript :: .int v_scriptLets :: .int v_scriptQuestions :: .ref a_scriptCode :: .ref a_scriptLetBegin :: .ref a_scriptLetEnd :: .ref a_aSort :: .ref a_aColumn :: .ref a_aLow :: .ref a_aHigh :: .ref a_aBy :: .ref a_aTop :: .ref a_aBegin :: .ref a_anEnd :: .ref a_told :: .int v_toldCount :: .ref a_out :: .int v_outs :: .ref a_goals :: .ref a_withs :: .int v_goalCount :: .ref a_pile :: .ref a_letValue :: .ref a_one :: .ref a_two :: [])), (a_out, .inl (gI G, 4200, .inl f_out))] H := hP
  have hD : va_D A [(h, .inr (12, .int v_p :: .int v_q :: .ref a_table :: .int v_rows :: .ref a_tape :: .int v_cells :: .ref a_budget :: .ref a_spent :: .ref a_text :: .int v_signs :: .ref a_kinds :: .ref a_values :: .int v_tokens :: .ref a_scriptKinds :: .ref a_scriptValues :: .int v_scriptTokens :: .int v_at :: .int v_place :: .int v_kind :: .int v_value :: .int v_depth :: .int v_asked :: .int v_lets :: .int v_questions :: .int v_statements :: .ref a_isTold :: .ref a_letOf :: .ref a_code :: .int v_size :: .ref a_letEnd :: .ref a_letBegin :: .ref a_sort :: .ref a_column :: .ref a_low :: .ref a_high :: .ref a_by :: .ref a_top :: .ref a_begins :: .ref a_ends :: .int v_hasScript :: .int v_scriptLets :: .int v_scriptQuestions :: .ref a_scriptCode :: .ref a_scriptLetBegin :: .ref a_scriptLetEnd :: .ref a_aSort :: .ref a_aColumn :: .ref a_aLow :: .ref a_aHigh :: .ref a_aBy :: .ref a_aTop :: .ref a_aBegin :: .ref a_anEnd :: .ref a_told :: .int v_toldCount :: .ref a_out :: .int v_outs :: .ref a_goals :: .ref a_withs :: .int v_goalCount :: .ref a_pile :: .ref a_letValue :: .ref a_one :: .ref a_two :: [])), (a_out, .inl (gI G, 4200, .inl f_out))] := hD
  have hl : lv_has ls 3 [(2, .int r1), (0, .ref h), (1, .int x)] := hl
  have e_ : (s_Mo_writeNumber f_out v_outs x) = (lp_Mo_writeNumber_18 x 20 r1 f_out v_outs) := (by rw [s_Mo_writeNumber] <;> simp only [hr1])
  rw [e_]
  exact loop_18 20 r1 f_out v_outs hok _ _ _ hP hD hS (lv_sub hl [0, 1, 2] rfl)
