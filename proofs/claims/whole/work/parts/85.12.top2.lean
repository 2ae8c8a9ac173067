/-! where, in -/
def asksG (con : RcF) (script_tokens_f_kinds : Nat → Int32) (script_tokens_f_values : Nat → Int32) (script_conditions_f_steps : Nat → Int32) (script_conditions_f_values : Nat → Int32) (script_conditions__size : Int32) (script_Q : Nat → Nat → Int32) (script__asked : Int32) (script_f_letOfLetter : Nat → Int32) (v_at : Int32) (v_joints : Int32) : Int32 × Int32 × Int32 × Int32 × Int32 × (Nat → Int32) × (Nat → Int32) × (Nat → Nat → Int32) :=
  if script__asked < 12 then (let r1 := (s_Par_head script_tokens_f_kinds script_tokens_f_values v_at (script_Q (s_qj script__asked) 0) (script_Q (s_qj script__asked) 1) (script_Q (s_qj script__asked) 2) (script_Q (s_qj script__asked) 3) (script_Q (s_qj script__asked) 4) (script_Q (s_qj script__asked) 5) (script_Q (s_qj script__asked) 6) (script_Q (s_qj script__asked) 7));
    if r1.1 = 0 then (0, r1.2.1, v_joints, script__asked, script_conditions__size, script_conditions_f_steps, script_conditions_f_values, updQ script_Q (s_qj script__asked) (qF r1.2.2.1 r1.2.2.2.1 r1.2.2.2.2.1 r1.2.2.2.2.2.1 r1.2.2.2.2.2.2.1 r1.2.2.2.2.2.2.2.1 r1.2.2.2.2.2.2.2.2.1 r1.2.2.2.2.2.2.2.2.2))
    else let r2 := (s_Par_take script_tokens_f_kinds r1.2.1 12);
    if r2.1 = 0 then (let r3 := (s_Par_take script_tokens_f_kinds r2.2 13);
      if r3.1 = 0 then (0, r3.2, v_joints, script__asked, script_conditions__size, script_conditions_f_steps, script_conditions_f_values, updQ script_Q (s_qj script__asked) (qF r1.2.2.1 r1.2.2.2.1 r1.2.2.2.2.1 r1.2.2.2.2.2.1 r1.2.2.2.2.2.2.1 r1.2.2.2.2.2.2.2.1 script_conditions__size script_conditions__size))
      else let r4 := (s_Par_isNumber script_tokens_f_kinds script_tokens_f_values r3.2 0 30);
      if r4 = 0 then (0, r3.2, v_joints, script__asked, script_conditions__size, script_conditions_f_steps, script_conditions_f_values, updQ script_Q (s_qj script__asked) (qF r1.2.2.1 r1.2.2.2.1 r1.2.2.2.2.1 r1.2.2.2.2.2.1 r1.2.2.2.2.2.2.1 r1.2.2.2.2.2.2.2.1 script_conditions__size script_conditions__size))
      else let r5 := (s_Par_value script_tokens_f_values r3.2);
      (1, r3.2 + 1, v_joints, if 12 < script__asked + 1 then 12 else script__asked + 1, script_conditions__size, script_conditions_f_steps, script_conditions_f_values, updQ script_Q (s_qj script__asked) (qF r1.2.2.1 r1.2.2.2.1 r1.2.2.2.2.1 r1.2.2.2.2.2.1 r1.2.2.2.2.2.2.1 r5 script_conditions__size script_conditions__size)))
    else let r6 := (con script_tokens_f_kinds script_tokens_f_values script_conditions_f_steps script_conditions_f_values script_conditions__size script_f_letOfLetter r2.2 v_joints 0);
    if r6.1 = 0 then (0, r6.2.1, r6.2.2.1, script__asked, r6.2.2.2.1, r6.2.2.2.2.1, r6.2.2.2.2.2, updQ script_Q (s_qj script__asked) (qF r1.2.2.1 r1.2.2.2.1 r1.2.2.2.2.1 r1.2.2.2.2.2.1 r1.2.2.2.2.2.2.1 r1.2.2.2.2.2.2.2.1 script_conditions__size r1.2.2.2.2.2.2.2.2.2))
    else let r7 := (s_Par_take script_tokens_f_kinds r6.2.1 13);
    if r7.1 = 0 then (0, r7.2, r6.2.2.1, script__asked, r6.2.2.2.1, r6.2.2.2.2.1, r6.2.2.2.2.2, updQ script_Q (s_qj script__asked) (qF r1.2.2.1 r1.2.2.2.1 r1.2.2.2.2.1 r1.2.2.2.2.2.1 r1.2.2.2.2.2.2.1 r1.2.2.2.2.2.2.2.1 script_conditions__size r6.2.2.2.1))
    else let r8 := (s_Par_isNumber script_tokens_f_kinds script_tokens_f_values r7.2 0 30);
    if r8 = 0 then (0, r7.2, r6.2.2.1, script__asked, r6.2.2.2.1, r6.2.2.2.2.1, r6.2.2.2.2.2, updQ script_Q (s_qj script__asked) (qF r1.2.2.1 r1.2.2.2.1 r1.2.2.2.2.1 r1.2.2.2.2.2.1 r1.2.2.2.2.2.2.1 r1.2.2.2.2.2.2.2.1 script_conditions__size r6.2.2.2.1))
    else let r9 := (s_Par_value script_tokens_f_values r7.2);
    (1, r7.2 + 1, r6.2.2.1, if 12 < script__asked + 1 then 12 else script__asked + 1, r6.2.2.2.1, r6.2.2.2.2.1, r6.2.2.2.2.2, updQ script_Q (s_qj script__asked) (qF r1.2.2.1 r1.2.2.2.1 r1.2.2.2.2.1 r1.2.2.2.2.2.1 r1.2.2.2.2.2.2.1 r9 script_conditions__size r6.2.2.2.1)))
  else (0, v_at, v_joints, script__asked, script_conditions__size, script_conditions_f_steps, script_conditions_f_values, script_Q)
def okasksG (con : RcF) (okc : RcO) (script_tokens_f_kinds : Nat → Int32) (script_tokens_f_values : Nat → Int32) (script_conditions_f_steps : Nat → Int32) (script_conditions_f_values : Nat → Int32) (script_conditions__size : Int32) (script_Q : Nat → Nat → Int32) (script__asked : Int32) (script_f_letOfLetter : Nat → Int32) (v_at : Int32) (v_joints : Int32) : Prop :=
  if script__asked < 12 then (let r1 := (s_Par_head script_tokens_f_kinds script_tokens_f_values v_at (script_Q (s_qj script__asked) 0) (script_Q (s_qj script__asked) 1) (script_Q (s_qj script__asked) 2) (script_Q (s_qj script__asked) 3) (script_Q (s_qj script__asked) 4) (script_Q (s_qj script__asked) 5) (script_Q (s_qj script__asked) 6) (script_Q (s_qj script__asked) 7));
    (up v_at 2001) ∧ (if r1.1 = 0 then (True)
    else (let r2 := (s_Par_take script_tokens_f_kinds r1.2.1 12);
    (up r1.2.1 2001) ∧ (if r2.1 = 0 then (let r3 := (s_Par_take script_tokens_f_kinds r2.2 13);
      if r3.1 = 0 then (True)
      else (let r4 := (s_Par_isNumber script_tokens_f_kinds script_tokens_f_values r3.2 0 30);
      if r4 = 0 then (True)
      else (let r5 := (s_Par_value script_tokens_f_values r3.2);
      True)))
    else (let r6 := (con script_tokens_f_kinds script_tokens_f_values script_conditions_f_steps script_conditions_f_values script_conditions__size script_f_letOfLetter r2.2 v_joints 0);
    (okc script_tokens_f_kinds script_tokens_f_values script_conditions_f_steps script_conditions_f_values script_conditions__size script_f_letOfLetter r2.2 v_joints 0) ∧ (if r6.1 = 0 then (True)
    else (let r7 := (s_Par_take script_tokens_f_kinds r6.2.1 13);
    (up r6.2.1 2001) ∧ (if r7.1 = 0 then (True)
    else (let r8 := (s_Par_isNumber script_tokens_f_kinds script_tokens_f_values r7.2 0 30);
    if r8 = 0 then (True)
    else (let r9 := (s_Par_value script_tokens_f_values r7.2);
    True))))))))))
  else (True)
def letG (con : RcF) (script_tokens_f_kinds : Nat → Int32) (script_tokens_f_values : Nat → Int32) (script_conditions_f_steps : Nat → Int32) (script_conditions_f_values : Nat → Int32) (script_conditions__size : Int32) (script_f_letStarts : Nat → Int32) (script_f_letEnds : Nat → Int32) (script_f_letOfLetter : Nat → Int32) (script__lets : Int32) (v_at : Int32) (v_joints : Int32) : Int32 × Int32 × Int32 × Int32 × Int32 × (Nat → Int32) × (Nat → Int32) × (Nat → Int32) × (Nat → Int32) × (Nat → Int32) :=
  if script__lets < 10 then (let r1 := (s_Par_value script_tokens_f_values (v_at + 1));
    let r2 := (s_Par_kind script_tokens_f_kinds (v_at + 1));
    if r2 = 4 then (let r3 := (s_Scr_letOf script_f_letOfLetter r1);
      if r3 = (-1) then (let r4 := (s_Par_take script_tokens_f_kinds ((v_at + 1) + 1) 22);
        if r4.1 = 0 then (0, r4.2, v_joints, script__lets, script_conditions__size, script_conditions_f_steps, script_conditions_f_values, script_f_letStarts, script_f_letEnds, script_f_letOfLetter)
        else let r5 := (con script_tokens_f_kinds script_tokens_f_values script_conditions_f_steps script_conditions_f_values script_conditions__size script_f_letOfLetter r4.2 v_joints 0);
        if r5.1 = 0 then (0, r5.2.1, r5.2.2.1, script__lets, r5.2.2.2.1, r5.2.2.2.2.1, r5.2.2.2.2.2, script_f_letStarts, script_f_letEnds, script_f_letOfLetter)
        else let r6 := (s_Scr_addLet r5.2.2.2.1 script_f_letStarts script_f_letEnds script_f_letOfLetter script__lets r1 script_conditions__size);
        (1, r5.2.1, r5.2.2.1, r6.1, r5.2.2.2.1, r5.2.2.2.2.1, r5.2.2.2.2.2, r6.2.1, r6.2.2.1, r6.2.2.2))
      else (0, v_at + 1, v_joints, script__lets, script_conditions__size, script_conditions_f_steps, script_conditions_f_values, script_f_letStarts, script_f_letEnds, script_f_letOfLetter))
    else (0, v_at + 1, v_joints, script__lets, script_conditions__size, script_conditions_f_steps, script_conditions_f_values, script_f_letStarts, script_f_letEnds, script_f_letOfLetter))
  else (0, v_at, v_joints, script__lets, script_conditions__size, script_conditions_f_steps, script_conditions_f_values, script_f_letStarts, script_f_letEnds, script_f_letOfLetter)
def okletG (con : RcF) (okc : RcO) (script_tokens_f_kinds : Nat → Int32) (script_tokens_f_values : Nat → Int32) (script_conditions_f_steps : Nat → Int32) (script_conditions_f_values : Nat → Int32) (script_conditions__size : Int32) (script_f_letStarts : Nat → Int32) (script_f_letEnds : Nat → Int32) (script_f_letOfLetter : Nat → Int32) (script__lets : Int32) (v_at : Int32) (v_joints : Int32) : Prop :=
  if script__lets < 10 then (let r1 := (s_Par_value script_tokens_f_values (v_at + 1));
    (up (v_at + 1) 2001) ∧ (let r2 := (s_Par_kind script_tokens_f_kinds (v_at + 1));
    (up (v_at + 1) 2001) ∧ (if r2 = 4 then (let r3 := (s_Scr_letOf script_f_letOfLetter r1);
      if r3 = (-1) then (let r4 := (s_Par_take script_tokens_f_kinds ((v_at + 1) + 1) 22);
        (up ((v_at + 1) + 1) 2001) ∧ (if r4.1 = 0 then (True)
        else (let r5 := (con script_tokens_f_kinds script_tokens_f_values script_conditions_f_steps script_conditions_f_values script_conditions__size script_f_letOfLetter r4.2 v_joints 0);
        (okc script_tokens_f_kinds script_tokens_f_values script_conditions_f_steps script_conditions_f_values script_conditions__size script_f_letOfLetter r4.2 v_joints 0) ∧ (if r5.1 = 0 then (True)
        else (let r6 := (s_Scr_addLet r5.2.2.2.1 script_f_letStarts script_f_letEnds script_f_letOfLetter script__lets r1 script_conditions__size);
        (ok_Scr_addLet script__lets r1) ∧ (True))))))
      else (True))
    else (True))))
  else (True)
abbrev RdF : Type := (Nat → Int32) → Int32 → (Nat → Int32) → (Nat → Int32) → Int32 → Int32 → Int32 → Int32 → Int32 → Int32 → (Nat → Int32) → (Nat → Int32) → (Nat → Int32) → Int32 → (Nat → Int32) → (Nat → Int32) → MT
abbrev RdO : Type := (Nat → Int32) → Int32 → (Nat → Int32) → (Nat → Int32) → Int32 → Int32 → Int32 → Int32 → Int32 → Int32 → (Nat → Int32) → (Nat → Int32) → (Nat → Int32) → Int32 → (Nat → Int32) → (Nat → Int32) → Prop
def readWhereG (rd : RdF) (f_text : Nat → Int32) (v_signs : Int32) (f_kinds : Nat → Int32) (f_values : Nat → Int32) (v_tokens : Int32) (v_at : Int32) (v_place : Int32) (v_kind : Int32) (v_value : Int32) (v_depth : Int32) (v_asked : Int32) (f_isTold : Nat → Int32) (f_letOf : Nat → Int32) (f_code : Nat → Int32) (v_size : Int32) (f_top : Nat → Int32) (f_begins : Nat → Int32) (f_ends : Nat → Int32) (f_goals : Nat → Int32) (f_withs : Nat → Int32) (v_goalCount : Int32) (x : Int32) : Int32 × Int32 × Int32 × Int32 × Int32 × Int32 × Int32 × Int32 × Int32 × Int32 × (Nat → Int32) × (Nat → Int32) × (Nat → Int32) × (Nat → Int32) × (Nat → Int32) × (Nat → Int32) × (Nat → Int32) × (Nat → Int32) :=
  if v_kind = 5 then (let r3 := (s_Mo_pass f_text v_signs f_kinds f_values v_tokens v_at v_kind v_value);
    let r4 := (rd f_text v_signs r3.2.2.2.2.2.1 r3.2.2.2.2.2.2 r3.1 r3.2.1 r3.2.2.1 r3.2.2.2.1 r3.2.2.2.2.1 v_asked f_isTold f_letOf f_code v_size f_goals f_withs);
    if r4.1 = 0 then (0, r4.2.1, r4.2.2.1, r4.2.2.2.1, r4.2.2.2.2.1, r4.2.2.2.2.2.1, r4.2.2.2.2.2.2.1, r4.2.2.2.2.2.2.2.1, r4.2.2.2.2.2.2.2.2.1, r4.2.2.2.2.2.2.2.2.2.1, r4.2.2.2.2.2.2.2.2.2.2.1, r4.2.2.2.2.2.2.2.2.2.2.2.1, r4.2.2.2.2.2.2.2.2.2.2.2.2.1, f_top, upd f_begins x.toNatClampNeg v_size, upd f_ends x.toNatClampNeg (-1), r4.2.2.2.2.2.2.2.2.2.2.2.2.2.1, r4.2.2.2.2.2.2.2.2.2.2.2.2.2.2)
    else let r5 := (s_Mo_passOne f_text v_signs r4.2.2.2.2.2.2.2.2.2.2.1 r4.2.2.2.2.2.2.2.2.2.2.2.1 r4.2.1 r4.2.2.1 r4.2.2.2.1 r4.2.2.2.2.1 r4.2.2.2.2.2.1 6);
    if r5.1 = 0 then (0, r5.2.1, r5.2.2.1, r5.2.2.2.1, r5.2.2.2.2.1, r5.2.2.2.2.2.1, r4.2.2.2.2.2.2.1, r4.2.2.2.2.2.2.2.1, r4.2.2.2.2.2.2.2.2.1, r4.2.2.2.2.2.2.2.2.2.1, r5.2.2.2.2.2.2.1, r5.2.2.2.2.2.2.2, r4.2.2.2.2.2.2.2.2.2.2.2.2.1, f_top, upd f_begins x.toNatClampNeg v_size, upd (upd f_ends x.toNatClampNeg (-1)) x.toNatClampNeg r4.2.2.2.2.2.2.2.2.1, r4.2.2.2.2.2.2.2.2.2.2.2.2.2.1, r4.2.2.2.2.2.2.2.2.2.2.2.2.2.2)
    else let r6 := (s_Mo_passNumber f_text v_signs r5.2.2.2.2.2.2.1 r5.2.2.2.2.2.2.2 r5.2.1 r5.2.2.1 r5.2.2.2.1 r5.2.2.2.2.1 r5.2.2.2.2.2.1 0 30);
    (r6.1, r6.2.1, r6.2.2.1, r6.2.2.2.1, r6.2.2.2.2.1, r6.2.2.2.2.2.1, r4.2.2.2.2.2.2.1, r4.2.2.2.2.2.2.2.1, r4.2.2.2.2.2.2.2.2.1, r4.2.2.2.2.2.2.2.2.2.1, r6.2.2.2.2.2.2.1, r6.2.2.2.2.2.2.2, r4.2.2.2.2.2.2.2.2.2.2.2.2.1, upd f_top x.toNatClampNeg r5.2.2.2.2.2.1, upd f_begins x.toNatClampNeg v_size, upd (upd f_ends x.toNatClampNeg (-1)) x.toNatClampNeg r4.2.2.2.2.2.2.2.2.1, r4.2.2.2.2.2.2.2.2.2.2.2.2.2.1, r4.2.2.2.2.2.2.2.2.2.2.2.2.2.2))
  else let r1 := (s_Mo_passOne f_text v_signs f_kinds f_values v_tokens v_at v_place v_kind v_value 6);
  if r1.1 = 0 then (0, r1.2.1, r1.2.2.1, r1.2.2.2.1, r1.2.2.2.2.1, r1.2.2.2.2.2.1, v_depth, v_asked, v_size, v_goalCount, r1.2.2.2.2.2.2.1, r1.2.2.2.2.2.2.2, f_code, f_top, upd f_begins x.toNatClampNeg v_size, upd f_ends x.toNatClampNeg (-1), f_goals, f_withs)
  else let r2 := (s_Mo_passNumber f_text v_signs r1.2.2.2.2.2.2.1 r1.2.2.2.2.2.2.2 r1.2.1 r1.2.2.1 r1.2.2.2.1 r1.2.2.2.2.1 r1.2.2.2.2.2.1 0 30);
  (r2.1, r2.2.1, r2.2.2.1, r2.2.2.2.1, r2.2.2.2.2.1, r2.2.2.2.2.2.1, v_depth, v_asked, v_size, v_goalCount, r2.2.2.2.2.2.2.1, r2.2.2.2.2.2.2.2, f_code, upd f_top x.toNatClampNeg r1.2.2.2.2.2.1, upd f_begins x.toNatClampNeg v_size, upd f_ends x.toNatClampNeg (-1), f_goals, f_withs)
def okreadWhereG (rd : RdF) (okrd : RdO) (f_text : Nat → Int32) (v_signs : Int32) (f_kinds : Nat → Int32) (f_values : Nat → Int32) (v_tokens : Int32) (v_at : Int32) (v_place : Int32) (v_kind : Int32) (v_value : Int32) (v_asked : Int32) (f_isTold : Nat → Int32) (f_letOf : Nat → Int32) (f_code : Nat → Int32) (v_size : Int32) (f_goals : Nat → Int32) (f_withs : Nat → Int32) (x : Int32) : Prop :=
  (vp_in x 12) ∧ ((vp_in x 12) ∧ (if v_kind = 5 then (let r3 := (s_Mo_pass f_text v_signs f_kinds f_values v_tokens v_at v_kind v_value);
    (PI v_signs v_at v_tokens v_kind v_value) ∧ ((¬ v_kind = 30) ∧ (let r4 := (rd f_text v_signs r3.2.2.2.2.2.1 r3.2.2.2.2.2.2 r3.1 r3.2.1 r3.2.2.1 r3.2.2.2.1 r3.2.2.2.2.1 v_asked f_isTold f_letOf f_code v_size f_goals f_withs);
    (okrd f_text v_signs r3.2.2.2.2.2.1 r3.2.2.2.2.2.2 r3.1 r3.2.1 r3.2.2.1 r3.2.2.2.1 r3.2.2.2.2.1 v_asked f_isTold f_letOf f_code v_size f_goals f_withs) ∧ (if r4.1 = 0 then (True)
    else ((vp_in x 12) ∧ (let r5 := (s_Mo_passOne f_text v_signs r4.2.2.2.2.2.2.2.2.2.2.1 r4.2.2.2.2.2.2.2.2.2.2.2.1 r4.2.1 r4.2.2.1 r4.2.2.2.1 r4.2.2.2.2.1 r4.2.2.2.2.2.1 6);
    (PI v_signs r4.2.2.1 r4.2.1 r4.2.2.2.2.1 r4.2.2.2.2.2.1) ∧ (if r5.1 = 0 then (True)
    else ((vp_in x 12) ∧ (let r6 := (s_Mo_passNumber f_text v_signs r5.2.2.2.2.2.2.1 r5.2.2.2.2.2.2.2 r5.2.1 r5.2.2.1 r5.2.2.2.1 r5.2.2.2.2.1 r5.2.2.2.2.2.1 0 30);
    True)))))))))
  else (let r1 := (s_Mo_passOne f_text v_signs f_kinds f_values v_tokens v_at v_place v_kind v_value 6);
  (PI v_signs v_at v_tokens v_kind v_value) ∧ (if r1.1 = 0 then (True)
  else ((vp_in x 12) ∧ (let r2 := (s_Mo_passNumber f_text v_signs r1.2.2.2.2.2.2.1 r1.2.2.2.2.2.2.2 r1.2.1 r1.2.2.1 r1.2.2.2.1 r1.2.2.2.2.1 r1.2.2.2.2.2.1 0 30);
  True))))))
def readLetG (rd : RdF) (f_text : Nat → Int32) (v_signs : Int32) (f_kinds : Nat → Int32) (f_values : Nat → Int32) (v_tokens : Int32) (v_at : Int32) (v_place : Int32) (v_kind : Int32) (v_value : Int32) (v_depth : Int32) (v_asked : Int32) (v_lets : Int32) (f_isTold : Nat → Int32) (f_letOf : Nat → Int32) (f_code : Nat → Int32) (v_size : Int32) (f_letEnd : Nat → Int32) (f_letBegin : Nat → Int32) (f_goals : Nat → Int32) (f_withs : Nat → Int32) (v_goalCount : Int32) : Int32 × Int32 × Int32 × Int32 × Int32 × Int32 × Int32 × Int32 × Int32 × Int32 × Int32 × (Nat → Int32) × (Nat → Int32) × (Nat → Int32) × (Nat → Int32) × (Nat → Int32) × (Nat → Int32) × (Nat → Int32) × (Nat → Int32) × (Nat → Int32) :=
  if v_lets = 10 then (0, v_tokens, v_at, v_place, v_kind, v_value, v_depth, v_asked, v_lets, v_size, v_goalCount, f_kinds, f_values, f_isTold, f_letOf, f_code, f_letEnd, f_letBegin, f_goals, f_withs)
  else let r1 := (s_Mo_pass f_text v_signs f_kinds f_values v_tokens v_at v_kind v_value);
  if r1.2.2.2.1 = 14 then if (f_isTold r1.2.2.2.2.1.toNatClampNeg) = 0 then (let r2 := (s_Mo_pass f_text v_signs r1.2.2.2.2.2.1 r1.2.2.2.2.2.2 r1.1 r1.2.1 r1.2.2.2.1 r1.2.2.2.2.1);
      let r3 := (s_Mo_passOne f_text v_signs r2.2.2.2.2.2.1 r2.2.2.2.2.2.2 r2.1 r2.2.1 r2.2.2.1 r2.2.2.2.1 r2.2.2.2.2.1 17);
      if r3.1 = 0 then (0, r3.2.1, r3.2.2.1, r3.2.2.2.1, r3.2.2.2.2.1, r3.2.2.2.2.2.1, v_depth, v_asked, v_lets, v_size, v_goalCount, r3.2.2.2.2.2.2.1, r3.2.2.2.2.2.2.2, f_isTold, f_letOf, f_code, f_letEnd, f_letBegin, f_goals, f_withs)
      else let r4 := (rd f_text v_signs r3.2.2.2.2.2.2.1 r3.2.2.2.2.2.2.2 r3.2.1 r3.2.2.1 r3.2.2.2.1 r3.2.2.2.2.1 r3.2.2.2.2.2.1 v_asked f_isTold f_letOf f_code v_size f_goals f_withs);
      if r4.1 = 0 then (0, r4.2.1, r4.2.2.1, r4.2.2.2.1, r4.2.2.2.2.1, r4.2.2.2.2.2.1, r4.2.2.2.2.2.2.1, r4.2.2.2.2.2.2.2.1, v_lets, r4.2.2.2.2.2.2.2.2.1, r4.2.2.2.2.2.2.2.2.2.1, r4.2.2.2.2.2.2.2.2.2.2.1, r4.2.2.2.2.2.2.2.2.2.2.2.1, f_isTold, f_letOf, r4.2.2.2.2.2.2.2.2.2.2.2.2.1, f_letEnd, upd f_letBegin v_lets.toNatClampNeg v_size, r4.2.2.2.2.2.2.2.2.2.2.2.2.2.1, r4.2.2.2.2.2.2.2.2.2.2.2.2.2.2)
      else (1, r4.2.1, r4.2.2.1, r4.2.2.2.1, r4.2.2.2.2.1, r4.2.2.2.2.2.1, r4.2.2.2.2.2.2.1, r4.2.2.2.2.2.2.2.1, v_lets + 1, r4.2.2.2.2.2.2.2.2.1, r4.2.2.2.2.2.2.2.2.2.1, r4.2.2.2.2.2.2.2.2.2.2.1, r4.2.2.2.2.2.2.2.2.2.2.2.1, upd f_isTold r1.2.2.2.2.1.toNatClampNeg (vp_nar .boolean 1), upd f_letOf r1.2.2.2.2.1.toNatClampNeg v_lets, r4.2.2.2.2.2.2.2.2.2.2.2.2.1, upd f_letEnd v_lets.toNatClampNeg r4.2.2.2.2.2.2.2.2.1, upd f_letBegin v_lets.toNatClampNeg v_size, r4.2.2.2.2.2.2.2.2.2.2.2.2.2.1, r4.2.2.2.2.2.2.2.2.2.2.2.2.2.2))
    else (0, r1.1, r1.2.1, r1.2.2.1, r1.2.2.2.1, r1.2.2.2.2.1, v_depth, v_asked, v_lets, v_size, v_goalCount, r1.2.2.2.2.2.1, r1.2.2.2.2.2.2, f_isTold, f_letOf, f_code, f_letEnd, f_letBegin, f_goals, f_withs)
  else (0, r1.1, r1.2.1, r1.2.2.1, r1.2.2.2.1, r1.2.2.2.2.1, v_depth, v_asked, v_lets, v_size, v_goalCount, r1.2.2.2.2.2.1, r1.2.2.2.2.2.2, f_isTold, f_letOf, f_code, f_letEnd, f_letBegin, f_goals, f_withs)
def okreadLetG (rd : RdF) (okrd : RdO) (f_text : Nat → Int32) (v_signs : Int32) (f_kinds : Nat → Int32) (f_values : Nat → Int32) (v_tokens : Int32) (v_at : Int32) (v_kind : Int32) (v_value : Int32) (v_asked : Int32) (v_lets : Int32) (f_isTold : Nat → Int32) (f_letOf : Nat → Int32) (f_code : Nat → Int32) (v_size : Int32) (f_goals : Nat → Int32) (f_withs : Nat → Int32) : Prop :=
  if v_lets = 10 then (True)
  else (let r1 := (s_Mo_pass f_text v_signs f_kinds f_values v_tokens v_at v_kind v_value);
  (PI v_signs v_at v_tokens v_kind v_value) ∧ ((¬ v_kind = 30) ∧ (if r1.2.2.2.1 = 14 then ((vp_in r1.2.2.2.2.1 26) ∧ (if (f_isTold r1.2.2.2.2.1.toNatClampNeg) = 0 then (let r2 := (s_Mo_pass f_text v_signs r1.2.2.2.2.2.1 r1.2.2.2.2.2.2 r1.1 r1.2.1 r1.2.2.2.1 r1.2.2.2.2.1);
      (¬ r1.2.2.2.1 = 30) ∧ (let r3 := (s_Mo_passOne f_text v_signs r2.2.2.2.2.2.1 r2.2.2.2.2.2.2 r2.1 r2.2.1 r2.2.2.1 r2.2.2.2.1 r2.2.2.2.2.1 17);
      if r3.1 = 0 then (True)
      else ((vp_in v_lets 10) ∧ (let r4 := (rd f_text v_signs r3.2.2.2.2.2.2.1 r3.2.2.2.2.2.2.2 r3.2.1 r3.2.2.1 r3.2.2.2.1 r3.2.2.2.2.1 r3.2.2.2.2.2.1 v_asked f_isTold f_letOf f_code v_size f_goals f_withs);
      (okrd f_text v_signs r3.2.2.2.2.2.2.1 r3.2.2.2.2.2.2.2 r3.2.1 r3.2.2.1 r3.2.2.2.1 r3.2.2.2.2.1 r3.2.2.2.2.2.1 v_asked f_isTold f_letOf f_code v_size f_goals f_withs) ∧ (if r4.1 = 0 then (True)
      else ((vp_in v_lets 10) ∧ ((vp_in r1.2.2.2.2.1 26) ∧ ((vp_in r1.2.2.2.2.1 26) ∧ (True)))))))))
    else (True)))
  else (True))))
section TOP2
variable {g K V P : Nat → Int32} {N n : Nat} {e pos : Nat → Nat} {LO told lo : Nat → Int32} {Lc : Nat}
abbrev WT : Type := Int32 × Int32 × Int32 × Int32 × Int32 × Int32 × Int32 × Int32 × Int32 × Int32 × (Nat → Int32) × (Nat → Int32) × (Nat → Int32) × (Nat → Int32) × (Nat → Int32) × (Nat → Int32) × (Nat → Int32) × (Nat → Int32)
def whT (b : Int32) (m : MS) (tp bg en : Nat → Int32) : WT := (b, m.tk, m.at_, m.pl, m.kd, m.vl, m.dp, m.js, m.sz, m.gc, m.ks, m.vs, m.co, tp, bg, en, m.go, m.wi)
abbrev AT : Type := Int32 × Int32 × Int32 × Int32 × Int32 × (Nat → Int32) × (Nat → Int32) × (Nat → Nat → Int32)
/-- what a condition comes to, on both sides -/
def RcH (g K V P : Nat → Int32) (N n : Nat) (e : Nat → Nat) (LO told lo : Nat → Int32) (Lc : Nat) (con : RcF) (okc : RcO) (rd : RdF) (okrd : RdO) : Prop := ∀ (m : MS) (t j cs : Nat) (S W : Nat → Int32), At g K V N n e m t → m.js = nI j → j ≤ 150 → m.sz = nI (2 * cs) → cs + 1 ≤ t → okc K V S W (nI cs) LO (nI t) (nI j) 0 ∧ okrd g (nI N) m.ks m.vs m.tk m.at_ m.pl m.kd m.vl m.js told lo m.co m.sz m.go m.wi ∧ (CondOK g K V P N n e Lc m t cs S W (con K V S W (nI cs) LO (nI t) (nI j) 0) (rd g (nI N) m.ks m.vs m.tk m.at_ m.pl m.kd m.vl m.js told lo m.co m.sz m.go m.wi) ∨ CondNo P n (con K V S W (nI cs) LO (nI t) (nI j) 0) (rd g (nI N) m.ks m.vs m.tk m.at_ m.pl m.kd m.vl m.js told lo m.co m.sz m.go m.wi))
theorem rc_h (L : LexR g K V P N n e pos) (R : LetR LO told lo Lc) : RcH g K V P N n e LO told lo Lc (K_con 22) (okK_con 22) s_Mo_readCondition ok_Mo_readCondition := fun _ _ _ _ _ _ a b c d f => rc_sim L R a b c d f
/-- a question was read -/
def WhOK (g K V P : Nat → Int32) (N n : Nat) (e : Nat → Nat) (Lc : Nat) (m : MS) (t cs nq : Nat) (S W : Nat → Int32) (Q : Nat → Nat → Int32) (F : Int32 → Int32 → Int32 → Nat → Int32) (tp bg en : Nat → Int32) (r : AT) (rm : WT) : Prop := ∃ (t' j' cs' v : Nat) (S' W' en' : Nat → Int32) (m' : MS), r = (1, nI t', nI j', nI (nq + 1), nI cs', S', W', updQ Q nq (F (nI v) (nI cs) (nI cs'))) ∧ rm = whT 1 m' (upd tp nq (nI v)) (upd bg nq (nI (2 * cs))) en' ∧ v ≤ 30 ∧ t ≤ t' ∧ cs ≤ cs' ∧ cs' + 1 ≤ t' ∧ j' ≤ 150 ∧ (∀ i, i < cs → S' i = S i) ∧ (∀ i, i < cs → W' i = W i) ∧ At g K V N n e m' t' ∧ m'.js = nI j' ∧ m'.sz = nI (2 * cs') ∧ (∀ i, i < 2 * cs → m'.co i = m.co i) ∧ (∀ i, i ≠ nq → en' i = en i) ∧ ((cs' = cs ∧ en' nq = -1) ∨ ∃ h : Nat, en' nq = nI (2 * cs') ∧ BooD S' W' m'.co Lc cs cs' h ∧ h ≤ 46)
/-- it was not; both are at the same token -/
def WhNo (P : Nat → Int32) (n : Nat) (r : AT) (rm : WT) : Prop := ∃ (t' : Nat) (m' : MS) (tp bg en : Nat → Int32), r.1 = 0 ∧ r.2.1 = nI t' ∧ t' ≤ n ∧ rm = whT 0 m' tp bg en ∧ m'.pl = P t'
theorem in_030 {v : Nat} (hv : v < 2 ^ 31) (h : ¬ s_Mo_in (nI v) 0 30 = 0) : v ≤ 30 := by
  unfold s_Mo_in at h
  rw [if_neg (nI_pos hv)] at h
  by_cases c : (30 : Int32) < nI v
  · rw [if_pos c] at h
    exact absurd rfl h
  · have : ¬ 30 < v := fun q => c (ltL (N := 30) (a := 30) rfl q hv)
    omega
theorem asked_up {nq : Nat} (h : nq < 12) : (if (12 : Int32) < nI nq + 1 then (12 : Int32) else nI nq + 1) = nI (nq + 1) := by
  rw [nI_1, if_neg (nltL (N := 12) (a := 12) (b := nq + 1) rfl (by omega) (by decide))]
set_option maxHeartbeats 20000000 in
set_option maxRecDepth 100000 in
theorem where_simG {con : RcF} {okc : RcO} {rd : RdF} {okrd : RdO} (L : LexR g K V P N n e pos) (R : RcH g K V P N n e LO told lo Lc con okc rd okrd) {m : MS} {t t0 j cs nq : Nat} {S W tp bg en : Nat → Int32} {Q : Nat → Nat → Int32} {a1 a2 a3 a4 a5 a6 a7 a8 : Int32} (hq : nq < 12) (ht0 : t0 ≤ n)
    (hh : s_Par_head K V (nI t0) (Q nq 0) (Q nq 1) (Q nq 2) (Q nq 3) (Q nq 4) (Q nq 5) (Q nq 6) (Q nq 7) = (1, nI t, a1, a2, a3, a4, a5, a6, a7, a8)) (hat : At g K V N n e m t) (hj : m.js = nI j) (hj2 : j ≤ 150) (hs : m.sz = nI (2 * cs)) (hc : cs ≤ t) :
    okasksG con okc K V S W (nI cs) Q (nI nq) LO (nI t0) (nI j) ∧ okreadWhereG rd okrd g (nI N) m.ks m.vs m.tk m.at_ m.pl m.kd m.vl m.js told lo m.co m.sz m.go m.wi (nI nq) ∧
    (WhOK g K V P N n e Lc m t cs nq S W Q (fun x y z => qF a1 a2 a3 a4 a5 x y z) tp bg en (asksG con K V S W (nI cs) Q (nI nq) LO (nI t0) (nI j)) (readWhereG rd g (nI N) m.ks m.vs m.tk m.at_ m.pl m.kd m.vl m.dp m.js told lo m.co m.sz tp bg en m.go m.wi m.gc (nI nq)) ∨
     WhNo P n (asksG con K V S W (nI cs) Q (nI nq) LO (nI t0) (nI j)) (readWhereG rd g (nI N) m.ks m.vs m.tk m.at_ m.pl m.kd m.vl m.dp m.js told lo m.co m.sz tp bg en m.go m.wi m.gc (nI nq))) := by
  have hn := L.le
  have hN := L.hN
  have ht := hat.1
  have hin : vp_in (nI nq) 12 := vp_in_nI hq (by decide)
  have hlt : nI nq < 12 := ltR (N := 12) (b := 12) rfl hq (by decide)
  have hu0 : up (nI t0) 2001 := up_of (by omega) (by decide)
  have hu : up (nI t) 2001 := up_of (by omega) (by decide)
  have hpi := hat.pi L
  unfold okasksG okreadWhereG asksG readWhereG
  rw [if_pos hlt, if_pos hlt, sqj_nI hq, hh, nI_clamp (show nq < 2 ^ 31 by omega)]
  dsimp only
  rw [if10, if10]
  rcases take_sim L hat 12 12 5 (by decide) (by decide) rfl rfl with ⟨w1, w2, w3, w4, w5, -, m1, n1, w7⟩ | ⟨w1, w2, w3⟩
  · -- with a condition
    rw [w1, if_pos w2, if_pos w2, n1.pass]
    dsimp only
    have hk30 : ¬ m.kd = 30 := by rw [w2]; decide
    obtain ⟨c1, c2, c3⟩ := R m1 (t + 1) j cs S W w7 (n1.js.trans hj) hj2 (n1.sz.trans hs) (by omega)
    rw [n1.js, n1.co, n1.sz, n1.go, n1.wi] at c2 c3
    rw [if10, if10]
    rcases c3 with ⟨t', j', cs', h, S', W', m', b1, b2, b3, b4, b5, b6, b7, b8, b9, d1, d2, d3, d4, d5⟩ | ⟨t', m', b1, b2, b3, b4, b5⟩
    · have hut : up (nI t') 2001 := up_of (by have := b9.1; omega) (by decide)
      have hpi' := b9.pi L
      rw [b1, b2]
      unfold MS.tup
      dsimp only
      rw [if10, if10, if10, if10]
      rcases take_sim L b9 13 13 6 (by decide) (by decide) rfl rfl with ⟨x1, x2, x3, x4, x5, -, m2, n2, x7⟩ | ⟨x1, x2, x3⟩
      · rw [x1, n2.one x2]
        dsimp only
        rw [if10, if10, if10, if10]
        rcases num_sim L x7 0 30 with ⟨v, y1, y2, y3, y4, y5, y6, y7, m3, n3, y8, y9⟩ | ⟨y1, y2⟩
        · rw [if_neg y2, if_neg y2, y3, y8, y7, asked_up hq, nI_1]
          refine ⟨⟨hu0, hu, c1, hut, trivial⟩, ⟨hin, hin, hpi, hk30, c2, hin, hpi', hin, trivial⟩, Or.inl ⟨t' + 1 + 1, j', cs', v, S', W', upd (upd en nq (-1)) nq m'.sz, m3, rfl, ?_, in_030 y1 y6, by omega, b4, by omega, b6, b7, b8, y9, n3.js.trans (n2.js.trans d1), n3.sz.trans (n2.sz.trans d2), fun i hi => by rw [n3.co, n2.co, d3 i hi, n1.co], fun i hi => by rw [pk_un hi, pk_un hi], Or.inr ⟨h, ?_, by rw [n3.co, n2.co]; exact d4, d5⟩⟩⟩
          · unfold whT
            rw [hs, n3.js, n2.js, n3.sz, n2.sz, n3.co, n2.co, n3.dp, n2.dp, n3.gc, n2.gc, n3.go, n2.go, n3.wi, n2.wi]
          · rw [pk_us]
            exact d2
        · rw [if_pos y1, if_pos y1, y2]
          obtain ⟨k, -, -, -, z4, -, -⟩ := x7.view L
          exact ⟨⟨hu0, hu, c1, hut, trivial⟩, ⟨hin, hin, hpi, hk30, c2, hin, hpi', hin, trivial⟩, Or.inr ⟨t' + 1, m2, _, _, _, rfl, rfl, x7.1, by unfold whT; rw [n2.js, n2.sz, n2.co, n2.dp, n2.gc, n2.go, n2.wi], z4⟩⟩
      · rw [x1, one_n x2]
        dsimp only
        rw [if_pos rfl, if_pos rfl, if_pos rfl, if_pos rfl]
        obtain ⟨k, -, -, -, z4, -, -⟩ := b9.view L
        exact ⟨⟨hu0, hu, c1, hut, trivial⟩, ⟨hin, hin, hpi, hk30, c2, hin, hpi', trivial⟩, Or.inr ⟨t', m', _, _, _, rfl, rfl, b9.1, rfl, z4⟩⟩
    · rw [b4, if_pos b1, if_pos b1]
      unfold MS.tup
      dsimp only
      rw [if_pos rfl, if_pos rfl]
      exact ⟨⟨hu0, hu, c1, trivial⟩, ⟨hin, hin, hpi, hk30, c2, trivial⟩, Or.inr ⟨t', m', _, _, _, rfl, b2, b3, rfl, b5⟩⟩
  · -- without one
    rw [w1, if_neg w2, if_neg w2]
    dsimp only
    rw [if_pos rfl, if_pos rfl]
    rcases take_sim L hat 13 13 6 (by decide) (by decide) rfl rfl with ⟨x1, x2, x3, x4, x5, -, m2, n2, x7⟩ | ⟨x1, x2, x3⟩
    · rw [x1, n2.one x2]
      dsimp only
      rw [if10, if10, if10, if10]
      rcases num_sim L x7 0 30 with ⟨v, y1, y2, y3, y4, y5, y6, y7, m3, n3, y8, y9⟩ | ⟨y1, y2⟩
      · rw [if_neg y2, if_neg y2, y3, y8, y7, asked_up hq, nI_1]
        refine ⟨⟨hu0, hu, trivial⟩, ⟨hin, hin, hpi, hin, trivial⟩, Or.inl ⟨t + 1 + 1, j, cs, v, S, W, upd en nq (-1), m3, rfl, ?_, in_030 y1 y6, by omega, Nat.le_refl _, by omega, hj2, fun _ _ => rfl, fun _ _ => rfl, y9, n3.js.trans (n2.js.trans hj), n3.sz.trans (n2.sz.trans hs), fun _ _ => by rw [n3.co, n2.co], fun i hi => pk_un hi, Or.inl ⟨rfl, pk_us⟩⟩⟩
        unfold whT
        rw [n3.js, n2.js, n3.sz, n2.sz, n3.co, n2.co, n3.dp, n2.dp, n3.gc, n2.gc, n3.go, n2.go, n3.wi, n2.wi, hs]
      · rw [if_pos y1, if_pos y1, y2]
        obtain ⟨k, -, -, -, z4, -, -⟩ := x7.view L
        exact ⟨⟨hu0, hu, trivial⟩, ⟨hin, hin, hpi, hin, trivial⟩, Or.inr ⟨t + 1, m2, _, _, _, rfl, rfl, x7.1, by unfold whT; rw [n2.js, n2.sz, n2.co, n2.dp, n2.gc, n2.go, n2.wi], z4⟩⟩
    · rw [x1, one_n x2]
      dsimp only
      rw [if_pos rfl, if_pos rfl, if_pos rfl, if_pos rfl]
      obtain ⟨k, -, -, -, z4, -, -⟩ := hat.view L
      exact ⟨⟨hu0, hu, trivial⟩, ⟨hin, hin, hpi, trivial⟩, Or.inr ⟨t, m, _, _, _, rfl, rfl, ht, rfl, z4⟩⟩
theorem where_sim (L : LexR g K V P N n e pos) (R : LetR LO told lo Lc) {m : MS} {t t0 j cs nq : Nat} {S W tp bg en : Nat → Int32} {Q : Nat → Nat → Int32} {a1 a2 a3 a4 a5 a6 a7 a8 : Int32} (hq : nq < 12) (ht0 : t0 ≤ n)
    (hh : s_Par_head K V (nI t0) (Q nq 0) (Q nq 1) (Q nq 2) (Q nq 3) (Q nq 4) (Q nq 5) (Q nq 6) (Q nq 7) = (1, nI t, a1, a2, a3, a4, a5, a6, a7, a8)) (hat : At g K V N n e m t) (hj : m.js = nI j) (hj2 : j ≤ 150) (hs : m.sz = nI (2 * cs)) (hc : cs ≤ t) :
    ok_Par_asks K V S W (nI cs) Q (nI nq) LO (nI t0) (nI j) ∧ ok_Mo_readWhere g (nI N) m.ks m.vs m.tk m.at_ m.pl m.kd m.vl m.js told lo m.co m.sz m.go m.wi (nI nq) ∧
    (WhOK g K V P N n e Lc m t cs nq S W Q (fun x y z => qF a1 a2 a3 a4 a5 x y z) tp bg en (s_Par_asks K V S W (nI cs) Q (nI nq) LO (nI t0) (nI j)) (s_Mo_readWhere g (nI N) m.ks m.vs m.tk m.at_ m.pl m.kd m.vl m.dp m.js told lo m.co m.sz tp bg en m.go m.wi m.gc (nI nq)) ∨
     WhNo P n (s_Par_asks K V S W (nI cs) Q (nI nq) LO (nI t0) (nI j)) (s_Mo_readWhere g (nI N) m.ks m.vs m.tk m.at_ m.pl m.kd m.vl m.dp m.js told lo m.co m.sz tp bg en m.go m.wi m.gc (nI nq))) :=
  where_simG L (rc_h L R) hq ht0 hh hat hj hj2 hs hc
end TOP2
