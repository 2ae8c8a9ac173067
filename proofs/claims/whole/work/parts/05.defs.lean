def s_Tab_add (f_numbers : Nat → Int32) (v_rows : Int32) (x1 : Int32) (x2 : Int32) (x3 : Int32) (x4 : Int32) (x5 : Int32) (x6 : Int32) : Int32 × (Nat → Int32) :=
  if (v_rows * 6) < 0 then (v_rows, f_numbers)
  else if (v_rows * 6) ≤ (360 - 6) then (v_rows + 1, upd (upd (upd (upd (upd (upd f_numbers (v_rows * 6).toNatClampNeg x1) ((v_rows * 6) + 1).toNatClampNeg x2) ((v_rows * 6) + 2).toNatClampNeg x3) ((v_rows * 6) + 3).toNatClampNeg x4) ((v_rows * 6) + 4).toNatClampNeg x5) ((v_rows * 6) + 5).toNatClampNeg x6)
  else (v_rows, f_numbers)
def s_Tab_at (f_numbers : Nat → Int32) (row : Int32) (col : Int32) : Int32 :=
  if ((row * 6) + col) < 0 then 0
  else if 360 ≤ ((row * 6) + col) then 0
  else (f_numbers ((row * 6) + col).toNatClampNeg)
def s_Tab_remove (f_numbers : Nat → Int32) (v_rows : Int32) (row : Int32) : Int32 × (Nat → Int32) :=
  if row < 0 then (v_rows, f_numbers)
  else if row < v_rows then (v_rows - 1, va_cpy f_numbers f_numbers ((row + 1) * 6).toNatClampNeg (row * 6).toNatClampNeg ((v_rows * 6) - ((row + 1) * 6)).toNatClampNeg)
  else (v_rows, f_numbers)
def s_Tape_isCell (v_p : Int32) (v_q : Int32) (x : Int32) : Int32 :=
  if x < 0 then 0
  else if (v_q * (v_p + v_q)) ≤ x then 0
  else 1
def s_Tape_add (f_cells : Nat → Int32) (v_size : Int32) (x : Int32) : Int32 × (Nat → Int32) :=
  if 3000 ≤ v_size then (v_size, f_cells)
  else (v_size + 1, upd f_cells v_size.toNatClampNeg x)
def s_Tape_at (f_cells : Nat → Int32) (v_size : Int32) (x : Int32) : Int32 :=
  if x < 0 then 0
  else if v_size ≤ x then 0
  else (f_cells x.toNatClampNeg)
def s_Tape_remove (f_cells : Nat → Int32) (v_size : Int32) (x : Int32) : Int32 × (Nat → Int32) :=
  if x < 0 then (v_size, f_cells)
  else if x ≤ v_size then (v_size - x, va_cpy f_cells f_cells x.toNatClampNeg (0 : Int32).toNatClampNeg (v_size - x).toNatClampNeg)
  else (v_size, f_cells)
def lp_Tape_blockNoise (v_p : Int32) (v_q : Int32) (f_cells : Nat → Int32) (v_size : Int32) (x : Int32) (z : Int32) : Nat → Int32 → Int32 → Int32 → Int32 → Int32
  | 0, _, _, _, _ => 0
  | n + 1, u3, u4, k, i =>
    if z < i then (if (u3 + (v_p * v_q)) ≤ u4 then (-k)
      else k)
    else let r1 := (s_Tape_at f_cells v_size (x + i));
    if (v_p * (v_p + v_q)) ≤ r1 then (if (u3 + (v_p * v_q)) ≤ u4 then (-k)
      else k)
    else lp_Tape_blockNoise v_p v_q f_cells v_size x z n u3 u4 (k + 1) (i + 1)
def s_Tape_blockNoise (v_p : Int32) (v_q : Int32) (f_cells : Nat → Int32) (v_size : Int32) (x : Int32) (z : Int32) : Int32 :=
  let r1 := (s_Tape_at f_cells v_size x);
  if (v_q * (v_q - v_p)) ≤ r1 then (lp_Tape_blockNoise v_p v_q f_cells v_size x z (((z.toInt - (1 : Int32).toInt + 1).toNat) + 1) (v_q * (v_q - v_p)) r1 (1 : Int32) (1 : Int32))
  else 0
def s_Pur_isAsker (x : Int32) : Int32 :=
  if x < 0 then 0
  else if 4 ≤ x then 0
  else 1
def s_Pur_isKnown (x : Int32) : Int32 :=
  if x < 0 then 0
  else if 4 < x then 0
  else 1
theorem pu_in {x : Int32} (h : ¬ s_Pur_isKnown x = 0) : vp_in x 5 := by
  unfold s_Pur_isKnown at h
  split at h
  · exact absurd rfl h
  · rename_i h1
    split at h
    · exact absurd rfl h
    · rename_i h2
      rw [Int32.lt_iff_toInt_lt] at h1 h2
      have e0 : (0 : Int32).toInt = 0 := by decide
      have e4 : (4 : Int32).toInt = 4 := by decide
      exact ly_mk (by omega) (by omega)
def s_Pur_grantedTo (f_granted : Nat → Int32) (x : Int32) : Int32 :=
  let r1 := (s_Pur_isKnown x);
  if r1 = 0 then 0
  else (f_granted x.toNatClampNeg)
def s_Pur_spentBy (f_spent : Nat → Int32) (x : Int32) : Int32 :=
  let r1 := (s_Pur_isKnown x);
  if r1 = 0 then 0
  else (f_spent x.toNatClampNeg)
def s_Pur_leftTo (f_granted : Nat → Int32) (f_spent : Nat → Int32) (x : Int32) : Int32 :=
  let r1 := (s_Pur_grantedTo f_granted x);
  let r2 := (s_Pur_spentBy f_spent x);
  (r1 - r2)
def s_Pur_grant (f_granted : Nat → Int32) (x : Int32) (z : Int32) : (Nat → Int32) :=
  let r1 := (s_Pur_isKnown x);
  if r1 = 0 then f_granted
  else (upd f_granted x.toNatClampNeg z)
def s_Pur_spend (f_spent : Nat → Int32) (x : Int32) (z : Int32) : (Nat → Int32) :=
  let r1 := (s_Pur_isKnown x);
  if r1 = 0 then f_spent
  else (upd f_spent x.toNatClampNeg ((f_spent x.toNatClampNeg) + z))
def s_Text_byteOf (x : Int64) (z : Int32) : Int32 :=
  ((((x.toUInt64 >>> ((8 * z).toInt64.toUInt64 &&& Int64.toUInt64 63)).toInt64).toInt32) &&& 255)
def s_Text_at (f_signs : Nat → Int32) (v_size : Int32) (x : Int32) : Int32 :=
  if x < 0 then 0
  else if v_size ≤ x then 0
  else (f_signs x.toNatClampNeg)
def s_Text_isLetter (f_signs : Nat → Int32) (v_size : Int32) (x : Int32) : Int32 :=
  let r1 := (s_Text_at f_signs v_size x);
  if r1 < 97 then 0
  else if 122 < r1 then 0
  else 1
def s_Text_isDigit (f_signs : Nat → Int32) (v_size : Int32) (x : Int32) : Int32 :=
  let r1 := (s_Text_at f_signs v_size x);
  if r1 < 48 then 0
  else if 57 < r1 then 0
  else 1
def lp_Text_areSigns (x : Int64) (z : Int32) : Nat → Int32 → Int32
  | 0, _ => 0
  | n + 1, i =>
    if z ≤ i then 1
    else let r1 := (s_Text_byteOf x i);
    if r1 < 32 then 0
    else if r1 ≤ 126 then lp_Text_areSigns x z n (i + 1)
    else 0
def lp_Text_add (x : Int64) : Nat → Int32 → (Nat → Int32) → Int32 → Int32 × (Nat → Int32)
  | 0, _, g, k => (k, g)
  | n + 1, i, g, k =>
    if i < 0 then (k, g)
    else if 2000 ≤ k then (k, g)
    else let r1 := (s_Text_byteOf x i);
    lp_Text_add x n (i + (-1)) (upd g k.toNatClampNeg (vp_nar .char ((r1.toUInt32 % 65536).toInt32))) (k + 1)
def s_Out_signAt (f_signs : Nat → Int32) (v_size : Int32) (x : Int32) : Int32 :=
  if x < 0 then (-1)
  else if v_size ≤ x then (-1)
  else (f_signs x.toNatClampNeg)
def s_Out_add (f_signs : Nat → Int32) (v_size : Int32) (x : Int32) : Int32 × (Nat → Int32) :=
  if 4000 ≤ v_size then (v_size, f_signs)
  else (v_size + 1, upd f_signs v_size.toNatClampNeg (vp_nar .char x))
def lp_Out_addNumber (x : Int32) : Nat → Int32 → (Nat → Int32) → Int32 → Int32 × (Nat → Int32)
  | 0, _, g, k => (k, g)
  | n + 1, w, g, k =>
    if w ≤ 0 then (k, g)
    else if w ≤ x then (let r1 := (s_Out_add g k (((48 + ((x / w) - (x / w) / 10 * 10)).toUInt32 % 65536).toInt32));
      lp_Out_addNumber x n (w / 10) r1.2 r1.1)
    else if w = 1 then (let r2 := (s_Out_add g k (((48 + ((x / w) - (x / w) / 10 * 10)).toUInt32 % 65536).toInt32));
      lp_Out_addNumber x n (w / 10) r2.2 r2.1)
    else lp_Out_addNumber x n (w / 10) g k
def lp_Prod_timesOnce (x : Int32) : Nat → Int32 → Int32 → (Nat → Int32) → Int32 → Int32 × (Nat → Int32)
  | 0, _, _, g, k => (k, g)
  | n + 1, w, i, g, k =>
    if 96 ≤ i then (k, g)
    else if i < k then (if k ≤ i then lp_Prod_timesOnce x n ((0 + w) / 10) (i + 1) (upd g i.toNatClampNeg ((0 + w) - (0 + w) / 10 * 10)) (if k < i + 1 then i + 1 else k)
      else lp_Prod_timesOnce x n ((((g i.toNatClampNeg) * x) + w) / 10) (i + 1) (upd g i.toNatClampNeg ((((g i.toNatClampNeg) * x) + w) - (((g i.toNatClampNeg) * x) + w) / 10 * 10)) (if k < i + 1 then i + 1 else k))
    else if w ≤ 0 then (k, g)
    else if k ≤ i then lp_Prod_timesOnce x n ((0 + w) / 10) (i + 1) (upd g i.toNatClampNeg ((0 + w) - (0 + w) / 10 * 10)) (if k < i + 1 then i + 1 else k)
    else lp_Prod_timesOnce x n ((((g i.toNatClampNeg) * x) + w) / 10) (i + 1) (upd g i.toNatClampNeg ((((g i.toNatClampNeg) * x) + w) - (((g i.toNatClampNeg) * x) + w) / 10 * 10)) (if k < i + 1 then i + 1 else k)
def lp_Prod_times (x : Int32) (z : Int32) : Nat → Int32 → (Nat → Int32) → Int32 → Int32 × (Nat → Int32)
  | 0, _, g, k => (k, g)
  | n + 1, i, g, k =>
    if z ≤ i then (k, g)
    else let r1 := (lp_Prod_timesOnce x (((96 - (0 : Int32).toInt).toNat) + 1) (0 : Int32) (0 : Int32) g k);
    lp_Prod_times x z n (i + 1) r1.2 r1.1
def lp_Prod_writeInto (f_digits : Nat → Int32) : Nat → Int32 → (Nat → Int32) → Int32 → Int32 × (Nat → Int32)
  | 0, _, g, k => (k, g)
  | n + 1, i, g, k =>
    if i < 0 then (k, g)
    else let r1 := (s_Out_add g k (((48 + (f_digits i.toNatClampNeg)).toUInt32 % 65536).toInt32));
    lp_Prod_writeInto f_digits n (i + (-1)) r1.2 r1.1
def s_Tok_kindAt (f_kinds : Nat → Int32) (x : Int32) : Int32 :=
  if x < 0 then 0
  else if 2001 ≤ x then 0
  else (f_kinds x.toNatClampNeg)
def s_Tok_valueAt (f_values : Nat → Int32) (x : Int32) : Int32 :=
  if x < 0 then 0
  else if 2001 ≤ x then 0
  else (f_values x.toNatClampNeg)
def s_Tok_put (f_kinds : Nat → Int32) (f_values : Nat → Int32) (f_places : Nat → Int32) (v_size : Int32) (x : Int32) (z : Int32) (v : Int32) : (Nat → Int32) × (Nat → Int32) × (Nat → Int32) :=
  if 2001 ≤ v_size then (f_kinds, f_values, f_places)
  else if 2001 ≤ v_size then (f_kinds, f_values, f_places)
  else if 2001 ≤ v_size then (f_kinds, f_values, f_places)
  else (upd f_kinds v_size.toNatClampNeg x, upd f_values v_size.toNatClampNeg z, upd f_places v_size.toNatClampNeg v)
def s_Tok_isIdle (f_kinds : Nat → Int32) (f_values : Nat → Int32) (x : Int32) : Int32 :=
  let r1 := (s_Tok_kindAt f_kinds x);
  if r1 = 11 then (let r2 := (s_Tok_valueAt f_values (x + 1));
    if r2 = 1 then 1
    else 0)
  else 0
def s_Cond_add (f_steps : Nat → Int32) (f_values : Nat → Int32) (v_size : Int32) (x : Int32) (z : Int32) : Int32 × (Nat → Int32) × (Nat → Int32) :=
  if 2000 ≤ v_size then (v_size, f_steps, f_values)
  else if 2000 ≤ v_size then (v_size, f_steps, f_values)
  else (v_size + 1, upd f_steps v_size.toNatClampNeg x, upd f_values v_size.toNatClampNeg z)
def s_Cond_settle (f_holding : Nat → Int32) (x : Int32) (z : Int32) : (Nat → Int32) :=
  if x < 0 then f_holding
  else if 10 ≤ x then f_holding
  else (upd f_holding x.toNatClampNeg (vp_nar .boolean z))
def s_Cond_push (f_stack : Nat → Int32) (v_height : Int32) (x : Int32) : Int32 × (Nat → Int32) :=
  if 64 ≤ v_height then (v_height, f_stack)
  else (v_height + 1, upd f_stack v_height.toNatClampNeg x)
def s_Cond_pop (f_stack : Nat → Int32) (v_height : Int32) : Int32 × Int32 :=
  if v_height < 1 then (0, v_height)
  else if v_height ≤ 64 then (f_stack (v_height - 1).toNatClampNeg, v_height - 1)
  else (0, v_height)
def s_Cond_compares (x : Int32) (z : Int32) (v : Int32) : Int32 :=
  if x = 17 then (if v < z then 0
    else 1)
  else if x = 18 then (if z < v then 0
    else 1)
  else if x = 19 then (if z = v then 0
    else 1)
  else if x = 20 then (if v ≤ z then 0
    else 1)
  else if x = 21 then (if z ≤ v then 0
    else 1)
  else if x = 22 then (if z = v then 1
    else 0)
  else if z = v then 0
  else 1
def s_Cond_joined (x : Int32) (z : Int32) (v : Int32) : Int32 :=
  if x = 14 then (z &&& v)
  else if x = 15 then (z ||| v)
  else if x = 16 then (let r1 := (s_Cond_compares x z v);
    if r1 = 0 then 0
    else 1)
  else if x = 17 then (let r2 := (s_Cond_compares x z v);
    if r2 = 0 then 0
    else 1)
  else if x = 18 then (let r3 := (s_Cond_compares x z v);
    if r3 = 0 then 0
    else 1)
  else if x = 19 then (let r4 := (s_Cond_compares x z v);
    if r4 = 0 then 0
    else 1)
  else if x = 20 then (let r5 := (s_Cond_compares x z v);
    if r5 = 0 then 0
    else 1)
  else if x = 21 then (let r6 := (s_Cond_compares x z v);
    if r6 = 0 then 0
    else 1)
  else if x = 22 then (let r7 := (s_Cond_compares x z v);
    if r7 = 0 then 0
    else 1)
  else if x = 23 then (z + v)
  else if x = 24 then (z - v)
  else if x = 25 then (z * v)
  else let r8 := (s_Cond_compares x z v);
  if r8 = 0 then 0
  else 1
def s_Cond_take (f_stack : Nat → Int32) (v_height : Int32) (f_holding : Nat → Int32) (tb_f_numbers : Nat → Int32) (x : Int32) (z : Int32) (row : Int32) : Int32 × (Nat → Int32) :=
  if x = (-1) then (let r1 := (s_Cond_pop f_stack v_height);
    let r2 := (s_Cond_push f_stack r1.2 (-r1.1));
    (r2.1, r2.2))
  else if x = 2 then (let r3 := (s_Cond_push f_stack v_height z);
    (r3.1, r3.2))
  else if x = 3 then (let r4 := (s_Tab_at tb_f_numbers row z);
    let r5 := (s_Cond_push f_stack v_height r4);
    (r5.1, r5.2))
  else if x = 4 then (if z < 0 then (let r6 := (s_Cond_push f_stack v_height 0);
      (r6.1, r6.2))
    else if 10 ≤ z then (let r7 := (s_Cond_push f_stack v_height 0);
      (r7.1, r7.2))
    else if (f_holding z.toNatClampNeg) = 0 then (let r8 := (s_Cond_push f_stack v_height 0);
      (r8.1, r8.2))
    else let r9 := (s_Cond_push f_stack v_height 1);
    (r9.1, r9.2))
  else if x = 16 then (let r10 := (s_Cond_pop f_stack v_height);
    let r11 := (s_Cond_push f_stack r10.2 (1 - r10.1));
    (r11.1, r11.2))
  else let r12 := (s_Cond_pop f_stack v_height);
  let r13 := (s_Cond_pop f_stack r12.2);
  let r14 := (s_Cond_joined x r13.1 r12.1);
  let r15 := (s_Cond_push f_stack r13.2 r14);
  (r15.1, r15.2)
def lp_Cond_hold (f_steps : Nat → Int32) (f_values : Nat → Int32) (f_holding : Nat → Int32) (tb_f_numbers : Nat → Int32) (z : Int32) (row : Int32) : Nat → Int32 → (Nat → Int32) → Int32 → Int32 × Int32 × (Nat → Int32)
  | 0, _, g, k => (0, k, g)
  | n + 1, i, g, k =>
    if z ≤ i then (let r1 := (s_Cond_pop g k);
      if r1.1 = 0 then (0, r1.2, g)
      else (1, r1.2, g))
    else if 2000 ≤ i then (let r2 := (s_Cond_pop g k);
      if r2.1 = 0 then (0, r2.2, g)
      else (1, r2.2, g))
    else if 2000 ≤ i then (let r3 := (s_Cond_pop g k);
      if r3.1 = 0 then (0, r3.2, g)
      else (1, r3.2, g))
    else let r4 := (s_Cond_take g k f_holding tb_f_numbers (f_steps i.toNatClampNeg) (f_values i.toNatClampNeg) row);
    lp_Cond_hold f_steps f_values f_holding tb_f_numbers z row n (i + 1) r4.2 r4.1
def s_Cond_hold (f_steps : Nat → Int32) (f_values : Nat → Int32) (f_stack : Nat → Int32) (v_height : Int32) (f_holding : Nat → Int32) (tb_f_numbers : Nat → Int32) (x : Int32) (z : Int32) (row : Int32) : Int32 × Int32 × (Nat → Int32) :=
  if x < z then (lp_Cond_hold f_steps f_values f_holding tb_f_numbers z row (((z.toInt - (if x < 0 then 0 else x).toInt).toNat) + 1) (if x < 0 then 0 else x) f_stack (0 : Int32))
  else (1, v_height, f_stack)
def s_Qu_numbers (v_sort : Int32) (v_low : Int32) (v_high : Int32) : Int32 :=
  if v_sort = 2 then ((v_high - v_low) + 1)
  else 1
def s_Qu_units (v_sort : Int32) (v_high : Int32) (v_by : Int32) : Int32 :=
  if v_sort = 1 then (((v_high + (if v_by < 1 then 1 else v_by)) - 1) / (if v_by < 1 then 1 else v_by))
  else 1
def s_Qu_part (v_sort : Int32) (v_low : Int32) (v_high : Int32) (v_by : Int32) (v_top : Int32) (x : Int32) : Int32 :=
  if x = 0 then v_sort
  else if x = 1 then (let r1 := (s_Qu_units v_sort v_high v_by);
    r1)
  else if x = 2 then (let r2 := (s_Qu_numbers v_sort v_low v_high);
    r2)
  else if x = 3 then v_top
  else if x = 4 then (let r3 := (s_Qu_numbers v_sort v_low v_high);
    (r3 * (v_top + 1)))
  else (-102)
def s_Scr_letOf (f_letOfLetter : Nat → Int32) (x : Int32) : Int32 :=
  if x < 0 then (-1)
  else if 26 ≤ x then (-1)
  else (f_letOfLetter x.toNatClampNeg)
def s_Par_kind (script_tokens_f_kinds : Nat → Int32) (v_at : Int32) : Int32 :=
  if 2001 ≤ v_at then 0
  else (script_tokens_f_kinds v_at.toNatClampNeg)
def s_Par_value (script_tokens_f_values : Nat → Int32) (v_at : Int32) : Int32 :=
  if 2001 ≤ v_at then 0
  else (script_tokens_f_values v_at.toNatClampNeg)
def s_Par_take (script_tokens_f_kinds : Nat → Int32) (v_at : Int32) (x : Int32) : Int32 × Int32 :=
  if 2001 ≤ v_at then (0, v_at)
  else if (script_tokens_f_kinds v_at.toNatClampNeg) = x then (1, v_at + 1)
  else (0, v_at)
def s_Par_takeJoint (v_at : Int32) (v_joints : Int32) : Int32 × Int32 × Int32 :=
  if v_joints < 150 then (1, v_at + 1, v_joints + 1)
  else (0, v_at, v_joints)
def s_Par_takeDeeper (v_at : Int32) (x : Int32) : Int32 × Int32 :=
  if x < 20 then (1, v_at + 1)
  else (0, v_at)
def s_Par_isNumber (script_tokens_f_kinds : Nat → Int32) (script_tokens_f_values : Nat → Int32) (v_at : Int32) (x : Int32) (z : Int32) : Int32 :=
  let r1 := (s_Par_kind script_tokens_f_kinds v_at);
  if r1 = 2 then (let r2 := (s_Par_value script_tokens_f_values v_at);
    if r2 < x then 0
    else if z < r2 then 0
    else 1)
  else 0
def s_Par_column (script_tokens_f_kinds : Nat → Int32) (script_tokens_f_values : Nat → Int32) (v_at : Int32) : Int32 × Int32 × Int32 :=
  let r1 := (s_Par_value script_tokens_f_values v_at);
  let r2 := (s_Par_take script_tokens_f_kinds v_at 3);
  (r2.1, r2.2, r1)
def s_Par_bounds (script_tokens_f_kinds : Nat → Int32) (script_tokens_f_values : Nat → Int32) (v_at : Int32) (one__high : Int32) (one__by : Int32) : Int32 × Int32 × Int32 × Int32 :=
  let r1 := (s_Par_take script_tokens_f_kinds v_at 10);
  if r1.1 = 0 then (0, r1.2, one__high, one__by)
  else let r2 := (s_Par_isNumber script_tokens_f_kinds script_tokens_f_values r1.2 1 1000);
  if r2 = 0 then (0, r1.2, one__high, one__by)
  else let r3 := (s_Par_value script_tokens_f_values r1.2);
  let r4 := (s_Par_take script_tokens_f_kinds (r1.2 + 1) 11);
  if r4.1 = 0 then (1, r4.2, r3, one__by)
  else let r5 := (s_Par_isNumber script_tokens_f_kinds script_tokens_f_values r4.2 1 1000);
  if r5 = 0 then (0, r4.2, r3, one__by)
  else let r6 := (s_Par_value script_tokens_f_values r4.2);
  (1, r4.2 + 1, r3, r6)
def s_Par_range (script_tokens_f_kinds : Nat → Int32) (script_tokens_f_values : Nat → Int32) (v_at : Int32) (one__low : Int32) (one__high : Int32) : Int32 × Int32 × Int32 × Int32 :=
  let r1 := (s_Par_take script_tokens_f_kinds v_at 9);
  if r1.1 = 0 then (0, r1.2, one__low, one__high)
  else let r2 := (s_Par_take script_tokens_f_kinds r1.2 24);
  if r2.1 = 0 then (let r3 := (s_Par_value script_tokens_f_values r2.2);
    let r4 := (s_Par_take script_tokens_f_kinds r2.2 2);
    if r4.1 = 0 then (0, r4.2, 1 * r3, one__high)
    else let r5 := (s_Par_take script_tokens_f_kinds r4.2 10);
    if r5.1 = 0 then (0, r5.2, 1 * r3, one__high)
    else let r6 := (s_Par_take script_tokens_f_kinds r5.2 24);
    if r6.1 = 0 then (let r7 := (s_Par_value script_tokens_f_values r6.2);
      if (lg_cmp (((1 * r7).toInt64) - ((1 * r3).toInt64)) 0) < 0 then (0, r6.2, 1 * r3, 1 * r7)
      else if 0 ≤ (lg_cmp (((1 * r7).toInt64) - ((1 * r3).toInt64)) 20) then (0, r6.2, 1 * r3, 1 * r7)
      else let r8 := (s_Par_take script_tokens_f_kinds r6.2 2);
      if r8.1 = 0 then (0, r8.2, 1 * r3, 1 * r7)
      else (1, r8.2, 1 * r3, 1 * r7))
    else let r9 := (s_Par_value script_tokens_f_values r6.2);
    if (lg_cmp ((((-1) * r9).toInt64) - ((1 * r3).toInt64)) 0) < 0 then (0, r6.2, 1 * r3, (-1) * r9)
    else if 0 ≤ (lg_cmp ((((-1) * r9).toInt64) - ((1 * r3).toInt64)) 20) then (0, r6.2, 1 * r3, (-1) * r9)
    else let r10 := (s_Par_take script_tokens_f_kinds r6.2 2);
    if r10.1 = 0 then (0, r10.2, 1 * r3, (-1) * r9)
    else (1, r10.2, 1 * r3, (-1) * r9))
  else let r11 := (s_Par_value script_tokens_f_values r2.2);
  let r12 := (s_Par_take script_tokens_f_kinds r2.2 2);
  if r12.1 = 0 then (0, r12.2, (-1) * r11, one__high)
  else let r13 := (s_Par_take script_tokens_f_kinds r12.2 10);
  if r13.1 = 0 then (0, r13.2, (-1) * r11, one__high)
  else let r14 := (s_Par_take script_tokens_f_kinds r13.2 24);
  if r14.1 = 0 then (let r15 := (s_Par_value script_tokens_f_values r14.2);
    if (lg_cmp (((1 * r15).toInt64) - (((-1) * r11).toInt64)) 0) < 0 then (0, r14.2, (-1) * r11, 1 * r15)
    else if 0 ≤ (lg_cmp (((1 * r15).toInt64) - (((-1) * r11).toInt64)) 20) then (0, r14.2, (-1) * r11, 1 * r15)
    else let r16 := (s_Par_take script_tokens_f_kinds r14.2 2);
    if r16.1 = 0 then (0, r16.2, (-1) * r11, 1 * r15)
    else (1, r16.2, (-1) * r11, 1 * r15))
  else let r17 := (s_Par_value script_tokens_f_values r14.2);
  if (lg_cmp ((((-1) * r17).toInt64) - (((-1) * r11).toInt64)) 0) < 0 then (0, r14.2, (-1) * r11, (-1) * r17)
  else if 0 ≤ (lg_cmp ((((-1) * r17).toInt64) - (((-1) * r11).toInt64)) 20) then (0, r14.2, (-1) * r11, (-1) * r17)
  else let r18 := (s_Par_take script_tokens_f_kinds r14.2 2);
  if r18.1 = 0 then (0, r18.2, (-1) * r11, (-1) * r17)
  else (1, r18.2, (-1) * r11, (-1) * r17)
def s_Par_head (script_tokens_f_kinds : Nat → Int32) (script_tokens_f_values : Nat → Int32) (v_at : Int32) (one__sort : Int32) (one__column : Int32) (one__low : Int32) (one__high : Int32) (one__by : Int32) (one__top : Int32) (one__start : Int32) (one__end : Int32) : Int32 × Int32 × Int32 × Int32 × Int32 × Int32 × Int32 × Int32 × Int32 × Int32 :=
  let r1 := (s_Par_take script_tokens_f_kinds v_at 6);
  if r1.1 = 0 then (let r2 := (s_Par_take script_tokens_f_kinds r1.2 7);
    if r2.1 = 0 then (let r3 := (s_Par_take script_tokens_f_kinds r2.2 8);
      if r3.1 = 0 then (0, r3.2, one__sort, one__column, one__low, one__high, one__by, one__top, one__start, one__end)
      else let r4 := (s_Par_column script_tokens_f_kinds script_tokens_f_values r3.2);
      if r4.1 = 0 then (0, r4.2.1, 2, r4.2.2, 0, 0, 1, 0, 0, 0)
      else let r5 := (s_Par_range script_tokens_f_kinds script_tokens_f_values r4.2.1 0 0);
      if r5.1 = 0 then (0, r5.2.1, 2, r4.2.2, r5.2.2.1, r5.2.2.2, 1, 0, 0, 0)
      else (1, r5.2.1, 2, r4.2.2, r5.2.2.1, r5.2.2.2, 1, 0, 0, 0))
    else let r6 := (s_Par_column script_tokens_f_kinds script_tokens_f_values r2.2);
    if r6.1 = 0 then (0, r6.2.1, 1, r6.2.2, 0, 0, 1, 0, 0, 0)
    else let r7 := (s_Par_bounds script_tokens_f_kinds script_tokens_f_values r6.2.1 0 1);
    if r7.1 = 0 then (0, r7.2.1, 1, r6.2.2, 0, r7.2.2.1, r7.2.2.2, 0, 0, 0)
    else (1, r7.2.1, 1, r6.2.2, 0, r7.2.2.1, r7.2.2.2, 0, 0, 0))
  else (1, r1.2, 0, 0, 0, 0, 1, 0, 0, 0)
def s_Mo_in (x : Int32) (z : Int32) (v : Int32) : Int32 :=
  if x < z then 0
  else if v < x then 0
  else 1
def s_Mo_row (f_table : Nat → Int32) (v_rows : Int32) (x1 : Int32) (x2 : Int32) (x3 : Int32) (x4 : Int32) (x5 : Int32) (x6 : Int32) : Int32 × Int32 × (Nat → Int32) :=
  if v_rows = 60 then ((-106), v_rows, f_table)
  else ((v_rows + 1) - 1, v_rows + 1, upd (upd (upd (upd (upd (upd f_table (6 * v_rows).toNatClampNeg x1) ((6 * v_rows) + 1).toNatClampNeg x2) ((6 * v_rows) + 2).toNatClampNeg x3) ((6 * v_rows) + 3).toNatClampNeg x4) ((6 * v_rows) + 4).toNatClampNeg x5) ((6 * v_rows) + 5).toNatClampNeg x6)
theorem mo_6 (n : Nat) : (6 : Int32) * nI n = nI (6 * n) := pk_mul 6 n
def s_Mo_isCell (v_p : Int32) (v_q : Int32) (x : Int32) : Int32 :=
  if x < 0 then 0
  else if (v_q * (v_p + v_q)) ≤ x then 0
  else 1
def s_Mo_count (v_rows : Int32) (v_cells : Int32) (v_signs : Int32) (v_scriptLets : Int32) (v_scriptQuestions : Int32) (v_toldCount : Int32) (x : Int32) : Int32 :=
  if x = 0 then v_rows
  else if x = 1 then v_cells
  else if x = 2 then v_signs
  else if x = 3 then v_scriptQuestions
  else if x = 4 then v_scriptLets
  else if x = 5 then v_toldCount
  else (-102)
def s_Mo_isSmall (x : Int32) : Int32 :=
  if x < 97 then 0
  else if 122 < x then 0
  else 1
def s_Mo_isDigit (x : Int32) : Int32 :=
  if x < 48 then 0
  else if 57 < x then 0
  else 1
def s_Mo_signKind (x : Int32) : Int32 :=
  if x = 59 then 16
  else if x = 61 then 17
  else if x = 43 then 23
  else if x = 45 then 24
  else if x = 42 then 25
  else if x = 40 then 26
  else if x = 41 then 27
  else if x = 91 then 28
  else if x = 93 then 29
  else 31
def s_Mo_bring (x : Int32) (z : Int32) : Int32 :=
  if 0 ≤ x then (if x ≤ z then x
    else z)
  else 0
def s_Mo_judge (x : Int32) (z : Int32) (v : Int32) : Int32 :=
  if x = 17 then (if z = v then 1
    else 0)
  else if x = 18 then (if v ≤ z then 0
    else 1)
  else if x = 19 then (if z ≤ v then 0
    else 1)
  else if x = 20 then (if v < z then 0
    else 1)
  else if x = 21 then (if z < v then 0
    else 1)
  else if z = v then 0
  else 1
def s_Mo_isSumStart (v_kind : Int32) : Int32 :=
  if v_kind = 15 then 1
  else if v_kind = 13 then 1
  else if v_kind = 24 then 1
  else if v_kind = 26 then 1
  else 0
def s_Mo_draws (v_p : Int32) (v_q : Int32) (f_tape : Nat → Int32) (v_cells : Int32) (x : Int32) (z : Int32) : Int32 × Int32 × (Nat → Int32) :=
  if z = (-1) then (let r1 := (s_Mo_isCell v_p v_q x);
    if r1 = 0 then ((-102), v_cells, f_tape)
    else if (v_cells + 1) ≤ 3000 then (v_cells + 1, v_cells + 1, upd f_tape v_cells.toNatClampNeg x)
    else ((-106), v_cells, f_tape))
  else let r2 := (s_Mo_isCell v_p v_q x);
  if r2 = 0 then ((-102), v_cells, f_tape)
  else let r3 := (s_Mo_isCell v_p v_q z);
  if r3 = 0 then ((-102), v_cells, f_tape)
  else if (v_cells + 2) ≤ 3000 then ((v_cells + 1) + 1, (v_cells + 1) + 1, upd (upd f_tape v_cells.toNatClampNeg x) (v_cells + 1).toNatClampNeg z)
  else ((-106), v_cells, f_tape)
def s_Mo_budget (f_budget : Nat → Int32) (f_spent : Nat → Int32) (x : Int32) (z : Int32) : Int32 × (Nat → Int32) :=
  let r1 := (s_Mo_in x 0 4);
  if r1 = 0 then ((-101), f_budget)
  else let r2 := (s_Mo_in z 0 1000000);
  if r2 = 0 then ((-102), f_budget)
  else if (f_spent x.toNatClampNeg) ≤ z then (f_budget x.toNatClampNeg, upd f_budget x.toNatClampNeg z)
  else ((-103), f_budget)
def s_Mo_ledger (f_budget : Nat → Int32) (f_spent : Nat → Int32) (x : Int32) (z : Int32) : Int32 :=
  let r1 := (s_Mo_in x 0 4);
  if r1 = 0 then (-101)
  else if z = 0 then (f_spent x.toNatClampNeg)
  else if z = 1 then ((f_budget x.toNatClampNeg) - (f_spent x.toNatClampNeg))
  else (-102)
def lp_Mo_begin_2  : Nat → Int32 → (Nat → Int32) → (Nat → Int32)
  | 0, _, g => g
  | n + 1, i, g =>
    if 240 ≤ i then (upd g (0 : Int32).toNatClampNeg 1)
    else (lp_Mo_begin_2 n (i + 1) (upd g i.toNatClampNeg 0))
def lp_Mo_grow_15 (x : Int32) : Nat → Int32 → Int32 → (Nat → Int32) → Int32 × Int32 × (Nat → Int32)
  | 0, k, i, f => (k, i, f)
  | n + 1, k, i, f =>
    if 240 ≤ i then (k, i, f)
    else (lp_Mo_grow_15 x n ((((f i.toNatClampNeg) * x) + k) / 10) (i + 1) (upd f i.toNatClampNeg ((((f i.toNatClampNeg) * x) + k) - (((f i.toNatClampNeg) * x) + k) / 10 * 10)))
def lp_Mo_grow_3 (x : Int32) (z : Int32) : Nat → Int32 → (Nat → Int32) → (Nat → Int32)
  | 0, _, g => g
  | n + 1, t, g =>
    if z ≤ t then g
    else let r1 := (lp_Mo_grow_15 x (((240 - (0 : Int32).toInt).toNat) + 1) (0 : Int32) (0 : Int32) g);
    (lp_Mo_grow_3 x z n (t + 1) r1.2.2)
def lp_Mo_isAtMost (f_one : Nat → Int32) (f_two : Nat → Int32) : Nat → Int32 → Int32
  | 0, _ => 0
  | n + 1, i =>
    if i ≤ 0 then (if (f_two i.toNatClampNeg) < (f_one i.toNatClampNeg) then 0
      else 1)
    else if (f_one i.toNatClampNeg) = (f_two i.toNatClampNeg) then lp_Mo_isAtMost f_one f_two n (i + (-1))
    else if (f_two i.toNatClampNeg) < (f_one i.toNatClampNeg) then 0
    else 1
def lp_Mo_wordAt_5 (f_text : Nat → Int32) (x : Int32) (z : Int32) : Nat → Int32 → Int32 → Int32
  | 0, _, _ => 0
  | n + 1, v, i =>
    if z ≤ i then v
    else if 5 < (z - x) then v
    else (lp_Mo_wordAt_5 f_text x z n ((((32 * v) + (f_text i.toNatClampNeg)) - 97) + 1) (i + 1))
/-- a place in the text -/
def LQ (sg a : Int32) : Prop := 0 ≤ a.toInt ∧ a.toInt < sg.toInt ∧ sg.toInt ≤ 2000
/-- a place in the text, or its end -/
def LU (sg a : Int32) : Prop := 0 ≤ a.toInt ∧ a.toInt ≤ sg.toInt ∧ sg.toInt ≤ 2000
theorem LQ.in {sg a : Int32} (h : LQ sg a) : vp_in a 2000 := ly_mk h.1 (by have := h.2; omega)
theorem LQ.up {sg a : Int32} (h : LQ sg a) : up sg 2000 := ⟨by have := h.1; have := h.2; omega, h.2.2⟩
theorem LU.up {sg a : Int32} (h : LU sg a) : up sg 2000 := ⟨by have := h.1; have := h.2; omega, h.2.2⟩
theorem LU.q {sg a : Int32} (h : LU sg a) (g : ¬ sg ≤ a) : LQ sg a := by
  rw [Int32.le_iff_toInt_le] at g
  exact ⟨h.1, by omega, h.2.2⟩
theorem LQ.s {sg a : Int32} (h : LQ sg a) : LU sg (a + 1) := by
  have h1 := h.1
  have h2 := h.2
  unfold LU
  rw [i32_succ (by omega)]
  omega
theorem LQ.s0 {sg a : Int32} (h : LQ sg a) : 0 ≤ (a + 1).toInt := h.s.1
theorem LQ.u {sg a : Int32} (h : LQ sg a) : LU sg a := ⟨h.1, by have := h.2; omega, h.2.2⟩
theorem LQ.mu {sg a : Int32} (h : LQ sg a) : (sg.toInt - (a + 1).toInt).toNat < (sg.toInt - a.toInt).toNat := by
  have h1 := h.1
  have h2 := h.2
  rw [i32_succ (by omega)]
  omega
def s_Mo_wordOf (x1 : Int32) (x2 : Int32) (x3 : Int32) (x4 : Int32) (x5 : Int32) : Int32 :=
  if x3 = 0 then (if x4 = 0 then (if x5 = 0 then (((32 * (x1 - 96)) + x2) - 96)
      else (((32 * (((32 * (x1 - 96)) + x2) - 96)) + x5) - 96))
    else if x5 = 0 then (((32 * (((32 * (x1 - 96)) + x2) - 96)) + x4) - 96)
    else (((32 * (((32 * (((32 * (x1 - 96)) + x2) - 96)) + x4) - 96)) + x5) - 96))
  else if x4 = 0 then (if x5 = 0 then (((32 * (((32 * (x1 - 96)) + x2) - 96)) + x3) - 96)
    else (((32 * (((32 * (((32 * (x1 - 96)) + x2) - 96)) + x3) - 96)) + x5) - 96))
  else if x5 = 0 then (((32 * (((32 * (((32 * (x1 - 96)) + x2) - 96)) + x3) - 96)) + x4) - 96)
  else (((32 * (((32 * (((32 * (((32 * (x1 - 96)) + x2) - 96)) + x3) - 96)) + x4) - 96)) + x5) - 96)
def s_Mo_classify (f_text : Nat → Int32) (v_value : Int32) (x : Int32) (z : Int32) : Int32 × Int32 :=
  if (z - x) = 1 then (if 6 ≤ ((f_text x.toNatClampNeg) - 97) then (14, (f_text x.toNatClampNeg) - 97)
    else (13, (f_text x.toNatClampNeg) - 97))
  else let r1 := (lp_Mo_wordAt_5 f_text x z (((z.toInt - x.toInt).toNat) + 1) (0 : Int32) x);
  if r1 = 0 then (31, v_value)
  else let r2 := (s_Mo_wordOf 108 101 116 0 0);
  if r1 = r2 then (1, v_value)
  else let r3 := (s_Mo_wordOf 99 111 117 110 116);
  if r1 = r3 then (2, v_value)
  else let r4 := (s_Mo_wordOf 115 117 109 0 0);
  if r1 = r4 then (3, v_value)
  else let r5 := (s_Mo_wordOf 98 105 110 115 0);
  if r1 = r5 then (4, v_value)
  else let r6 := (s_Mo_wordOf 119 104 101 114 101);
  if r1 = r6 then (5, v_value)
  else let r7 := (s_Mo_wordOf 105 110 0 0 0);
  if r1 = r7 then (6, v_value)
  else let r8 := (s_Mo_wordOf 116 111 0 0 0);
  if r1 = r8 then (7, v_value)
  else let r9 := (s_Mo_wordOf 98 121 0 0 0);
  if r1 = r9 then (8, v_value)
  else let r10 := (s_Mo_wordOf 102 114 111 109 0);
  if r1 = r10 then (9, v_value)
  else let r11 := (s_Mo_wordOf 110 111 116 0 0);
  if r1 = r11 then (10, v_value)
  else let r12 := (s_Mo_wordOf 97 110 100 0 0);
  if r1 = r12 then (11, v_value)
  else let r13 := (s_Mo_wordOf 111 114 0 0 0);
  if r1 = r13 then (12, v_value)
  else (31, v_value)
def s_Mo_peek (f_text : Nat → Int32) (v_signs : Int32) (x : Int32) : Int32 :=
  if v_signs ≤ x then 0
  else (f_text x.toNatClampNeg)
def s_Mo_compareSign (f_text : Nat → Int32) (v_signs : Int32) (v_at : Int32) : Int32 × Int32 :=
  let r1 := (s_Mo_peek f_text v_signs (v_at + 1));
  if (f_text v_at.toNatClampNeg) = 60 then (if r1 = 61 then (v_at + 2, 20)
    else if r1 = 62 then (v_at + 2, 22)
    else (v_at + 1, 18))
  else if r1 = 61 then (v_at + 2, 21)
  else (v_at + 1, 19)
def lp_Mo_readNumber_8 (f_text : Nat → Int32) (v_signs : Int32) : Nat → Int64 → Int32 → Int32 → Int32 × Int32 × Int32
  | 0, _, a, _ => (a, 15, 0)
  | n + 1, y, a, w18_h =>
    if v_signs ≤ a then (if (lg_cmp y 2147483647) ≤ 0 then (a, 15, y.toInt32)
      else (a, 31, y.toInt32))
    else let r1 := (s_Mo_isDigit (f_text a.toNatClampNeg));
    if r1 = 0 then (if (lg_cmp y 2147483647) ≤ 0 then (a, 15, y.toInt32)
      else (a, 31, y.toInt32))
    else if (lg_cmp (((10 * y) + ((f_text a.toNatClampNeg).toInt64)) - 48) 2147483647) ≤ 0 then (lp_Mo_readNumber_8 f_text v_signs n (((10 * y) + ((f_text a.toNatClampNeg).toInt64)) - 48) (a + 1) w18_h)
    else (lp_Mo_readNumber_8 f_text v_signs n 2147483648 (a + 1) w18_h)
def lp_Mo_look_0 (f_text : Nat → Int32) (v_signs : Int32) : Nat → Int32 → Int32
  | 0, a => a
  | n + 1, a =>
    if v_signs ≤ a then a
    else if (f_text a.toNatClampNeg) = 32 then (lp_Mo_look_0 f_text v_signs n (a + 1))
    else a
def lp_Mo_look_86 (f_text : Nat → Int32) (v_signs : Int32) : Nat → Int32 → Int32 → Int32 → Int32 → Int32
  | 0, _, a2, _, _ => a2
  | n + 1, b, a2, pl, w19_h =>
    if v_signs ≤ a2 then a2
    else let r1 := (s_Mo_isSmall (f_text a2.toNatClampNeg));
    if r1 = 0 then a2
    else (lp_Mo_look_86 f_text v_signs n b (a2 + 1) pl w19_h)
def s_Mo_look (f_text : Nat → Int32) (v_signs : Int32) (v_at : Int32) : Int32 × Int32 × Int32 × Int32 :=
  let r1 := (lp_Mo_look_0 f_text v_signs (((v_signs.toInt - v_at.toInt).toNat) + 1) v_at);
  if r1 = v_signs then (r1, r1, 30, 0)
  else let r2 := (s_Mo_isSmall (f_text r1.toNatClampNeg));
  if r2 = 0 then (let r3 := (s_Mo_isDigit (f_text r1.toNatClampNeg));
    if r3 = 0 then (if (f_text r1.toNatClampNeg) = 60 then (let r4 := (s_Mo_compareSign f_text v_signs r1);
        (r4.1, r1, r4.2, 0))
      else if (f_text r1.toNatClampNeg) = 62 then (let r6 := (s_Mo_compareSign f_text v_signs r1);
        (r6.1, r1, r6.2, 0))
      else let r5 := (s_Mo_signKind (f_text r1.toNatClampNeg));
      (r1 + 1, r1, r5, 0))
    else let r7 := (lp_Mo_readNumber_8 f_text v_signs (((v_signs.toInt - r1.toInt).toNat) + 1) 0 r1 (15 : Int32));
    (r7.1, r1, r7.2.1, r7.2.2))
  else let r8 := (lp_Mo_look_86 f_text v_signs (((v_signs.toInt - r1.toInt).toNat) + 1) (f_text r1.toNatClampNeg) r1 r1 (0 : Int32));
  let r9 := (s_Mo_classify f_text 0 r1 r8);
  (r8, r1, r9.1, r9.2)
theorem LU.n {sg a : Int32} (h : LU sg a) (g : ¬ a = sg) : LQ sg a := ⟨h.1, by
  have h2 := h.2.1
  have h3 : a.toInt ≠ sg.toInt := fun e => g (Int32.toInt_inj.mp e)
  omega, h.2.2⟩
def s_Mo_pass (f_text : Nat → Int32) (v_signs : Int32) (f_kinds : Nat → Int32) (f_values : Nat → Int32) (v_tokens : Int32) (v_at : Int32) (v_kind : Int32) (v_value : Int32) : Int32 × Int32 × Int32 × Int32 × Int32 × (Nat → Int32) × (Nat → Int32) :=
  let r1 := (s_Mo_look f_text v_signs v_at);
  ((v_tokens + 1), r1.1, r1.2.1, r1.2.2.1, r1.2.2.2, upd f_kinds v_tokens.toNatClampNeg v_kind, upd f_values v_tokens.toNatClampNeg v_value)
def LK (sg a0 a pl kd vl : Int32) : Prop := LU sg a ∧ a0.toInt ≤ pl.toInt ∧ pl.toInt ≤ a.toInt ∧ (¬ kd = 30 → pl.toInt < a.toInt) ∧ (kd = 14 → up vl 25) ∧ (kd = 13 → up vl 5)
theorem LQ.lt {sg a : Int32} (h : LQ sg a) : (a + 1).toInt = a.toInt + 1 := by
  have h1 := h.1
  have h2 := h.2
  exact i32_succ (by omega)
theorem lk_0 {f : Nat → Int32} {sg : Int32} : ∀ (n : Nat) (a : Int32), LU sg a → LU sg (lp_Mo_look_0 f sg n a) ∧ a.toInt ≤ (lp_Mo_look_0 f sg n a).toInt := by
  intro n
  induction n with
  | zero => intro a h; exact ⟨h, Int.le_refl _⟩
  | succ n ih =>
    intro a h
    unfold lp_Mo_look_0
    split
    · exact ⟨h, Int.le_refl _⟩
    · rename_i h1
      split
      · have h2 := ih (a + 1) (h.q h1).s
        have h3 := (h.q h1).lt
        exact ⟨h2.1, by omega⟩
      · exact ⟨h, Int.le_refl _⟩
theorem lk_86 {f : Nat → Int32} {sg : Int32} : ∀ (n : Nat) (b a p w : Int32), LU sg a → LU sg (lp_Mo_look_86 f sg n b a p w) ∧ a.toInt ≤ (lp_Mo_look_86 f sg n b a p w).toInt := by
  intro n
  induction n with
  | zero => intro b a p w h; exact ⟨h, Int.le_refl _⟩
  | succ n ih =>
    intro b a p w h
    unfold lp_Mo_look_86
    dsimp only
    split
    · exact ⟨h, Int.le_refl _⟩
    · rename_i h1
      split
      · exact ⟨h, Int.le_refl _⟩
      · have h2 := ih b (a + 1) p w (h.q h1).s
        have h3 := (h.q h1).lt
        exact ⟨h2.1, by omega⟩
theorem lk_86s {f : Nat → Int32} {sg : Int32} (n : Nat) (b a p w : Int32) (h : LQ sg a) (hs : ¬ s_Mo_isSmall (f a.toNatClampNeg) = 0) : LU sg (lp_Mo_look_86 f sg (n + 1) b a p w) ∧ a.toInt < (lp_Mo_look_86 f sg (n + 1) b a p w).toInt := by
  unfold lp_Mo_look_86
  dsimp only
  rw [if_neg (fun g => by rw [Int32.le_iff_toInt_le] at g; have := h.2.1; omega), if_neg hs]
  have h2 := lk_86 (f := f) n b (a + 1) p w h.s
  have h3 := h.lt
  exact ⟨h2.1, by omega⟩
theorem lk_rn {f : Nat → Int32} {sg : Int32} : ∀ (n : Nat) (y : Int64) (a w : Int32), LU sg a → LU sg (lp_Mo_readNumber_8 f sg n y a w).1 ∧ a.toInt ≤ (lp_Mo_readNumber_8 f sg n y a w).1.toInt ∧ ((lp_Mo_readNumber_8 f sg n y a w).2.1 = 15 ∨ (lp_Mo_readNumber_8 f sg n y a w).2.1 = 31) := by
  intro n
  induction n with
  | zero => intro y a w h; exact ⟨h, Int.le_refl _, Or.inl rfl⟩
  | succ n ih =>
    intro y a w h
    unfold lp_Mo_readNumber_8
    dsimp only
    split
    · split
      · exact ⟨h, Int.le_refl _, Or.inl rfl⟩
      · exact ⟨h, Int.le_refl _, Or.inr rfl⟩
    · rename_i h1
      have h3 := (h.q h1).lt
      split
      · split
        · exact ⟨h, Int.le_refl _, Or.inl rfl⟩
        · exact ⟨h, Int.le_refl _, Or.inr rfl⟩
      · split
        · have h2 := ih (((10 * y) + ((f a.toNatClampNeg).toInt64)) - 48) (a + 1) w (h.q h1).s
          exact ⟨h2.1, by omega, h2.2.2⟩
        · have h2 := ih 2147483648 (a + 1) w (h.q h1).s
          exact ⟨h2.1, by omega, h2.2.2⟩
theorem lk_rns {f : Nat → Int32} {sg : Int32} (n : Nat) (y : Int64) (a w : Int32) (h : LQ sg a) (hd : ¬ s_Mo_isDigit (f a.toNatClampNeg) = 0) : a.toInt < (lp_Mo_readNumber_8 f sg (n + 1) y a w).1.toInt := by
  unfold lp_Mo_readNumber_8
  dsimp only
  rw [if_neg (fun g => by rw [Int32.le_iff_toInt_le] at g; have := h.2.1; omega), if_neg hd]
  have h3 := h.lt
  split
  · have h2 := lk_rn (f := f) n (((10 * y) + ((f a.toNatClampNeg).toInt64)) - 48) (a + 1) w h.s
    omega
  · have h2 := lk_rn (f := f) n 2147483648 (a + 1) w h.s
    omega
theorem lk_pk {f : Nat → Int32} {sg x k : Int32} (h : s_Mo_peek f sg x = k) (hk : ¬ k = 0) : ¬ sg ≤ x := by
  intro g
  unfold s_Mo_peek at h
  rw [if_pos g] at h
  exact hk h.symm
theorem lk_a2 (a : Int32) : a + 1 + 1 = a + 2 := by rw [Int32.add_assoc]; rfl
theorem lk_cs {f : Nat → Int32} {sg a : Int32} (hq : LQ sg a) : LU sg (s_Mo_compareSign f sg a).1 ∧ a.toInt < (s_Mo_compareSign f sg a).1.toInt ∧ ¬ (s_Mo_compareSign f sg a).2 = 14 ∧ ¬ (s_Mo_compareSign f sg a).2 = 13 := by
  have two : ∀ k : Int32, s_Mo_peek f sg (a + 1) = k → ¬ k = 0 → LU sg (a + 2) ∧ a.toInt < (a + 2).toInt := by
    intro k h hk
    have h2 := hq.s.q (lk_pk h hk)
    have h3 := h2.lt
    have h4 := hq.lt
    rw [← lk_a2]
    exact ⟨h2.s, by omega⟩
  have one : LU sg (a + 1) ∧ a.toInt < (a + 1).toInt := ⟨hq.s, by have := hq.lt; omega⟩
  unfold s_Mo_compareSign
  dsimp only
  split
  · split
    · rename_i h
      exact ⟨(two _ h (by decide)).1, (two _ h (by decide)).2, by dsimp only; decide, by dsimp only; decide⟩
    · split
      · rename_i h
        exact ⟨(two _ h (by decide)).1, (two _ h (by decide)).2, by dsimp only; decide, by dsimp only; decide⟩
      · exact ⟨one.1, one.2, by dsimp only; decide, by dsimp only; decide⟩
  · split
    · rename_i h
      exact ⟨(two _ h (by decide)).1, (two _ h (by decide)).2, by dsimp only; decide, by dsimp only; decide⟩
    · exact ⟨one.1, one.2, by dsimp only; decide, by dsimp only; decide⟩
theorem lk_sk (b : Int32) : ¬ s_Mo_signKind b = 14 ∧ ¬ s_Mo_signKind b = 13 := by
  unfold s_Mo_signKind
  repeat' split
  all_goals exact ⟨by decide, by decide⟩
theorem lk_sm {b : Int32} (h : ¬ s_Mo_isSmall b = 0) : 97 ≤ b.toInt ∧ b.toInt ≤ 122 := by
  unfold s_Mo_isSmall at h
  split at h
  · exact absurd rfl h
  · rename_i h1
    split at h
    · exact absurd rfl h
    · rename_i h2
      rw [Int32.lt_iff_toInt_lt, show (97 : Int32).toInt = 97 by decide] at h1
      rw [Int32.lt_iff_toInt_lt, show (122 : Int32).toInt = 122 by decide] at h2
      omega
def ncl (t : Int32 × Int32) : Prop := ¬ t.1 = 14 ∧ ¬ t.1 = 13
theorem lk_cl {f : Nat → Int32} {v x z : Int32} (hs : ¬ s_Mo_isSmall (f x.toNatClampNeg) = 0) : ((s_Mo_classify f v x z).1 = 14 → up (s_Mo_classify f v x z).2 25) ∧ ((s_Mo_classify f v x z).1 = 13 → up (s_Mo_classify f v x z).2 5) := by
  have h1 := lk_sm hs
  have h2 : (f x.toNatClampNeg - 97).toInt = (f x.toNatClampNeg).toInt - 97 := by
    rw [Int32.toInt_sub, show (97 : Int32).toInt = 97 by decide, Int.bmod_eq_of_le (by omega) (by omega)]
  have key : ∀ (r1 r2 r3 r4 r5 r6 r7 r8 r9 r10 r11 r12 r13 : Int32), ncl (if r1 = 0 then (31, v) else if r1 = r2 then (1, v) else if r1 = r3 then (2, v) else if r1 = r4 then (3, v) else if r1 = r5 then (4, v) else if r1 = r6 then (5, v) else if r1 = r7 then (6, v) else if r1 = r8 then (7, v) else if r1 = r9 then (8, v) else if r1 = r10 then (9, v) else if r1 = r11 then (10, v) else if r1 = r12 then (11, v) else if r1 = r13 then (12, v) else (31, v)) := by
    intro r1 r2 r3 r4 r5 r6 r7 r8 r9 r10 r11 r12 r13
    by_cases c0 : r1 = 0
    · rw [if_pos c0]
      exact ⟨(by decide : ¬ (31 : Int32) = 14), (by decide : ¬ (31 : Int32) = 13)⟩
    rw [if_neg c0]
    by_cases c1 : r1 = r2
    · rw [if_pos c1]
      exact ⟨(by decide : ¬ (1 : Int32) = 14), (by decide : ¬ (1 : Int32) = 13)⟩
    rw [if_neg c1]
    by_cases c2 : r1 = r3
    · rw [if_pos c2]
      exact ⟨(by decide : ¬ (2 : Int32) = 14), (by decide : ¬ (2 : Int32) = 13)⟩
    rw [if_neg c2]
    by_cases c3 : r1 = r4
    · rw [if_pos c3]
      exact ⟨(by decide : ¬ (3 : Int32) = 14), (by decide : ¬ (3 : Int32) = 13)⟩
    rw [if_neg c3]
    by_cases c4 : r1 = r5
    · rw [if_pos c4]
      exact ⟨(by decide : ¬ (4 : Int32) = 14), (by decide : ¬ (4 : Int32) = 13)⟩
    rw [if_neg c4]
    by_cases c5 : r1 = r6
    · rw [if_pos c5]
      exact ⟨(by decide : ¬ (5 : Int32) = 14), (by decide : ¬ (5 : Int32) = 13)⟩
    rw [if_neg c5]
    by_cases c6 : r1 = r7
    · rw [if_pos c6]
      exact ⟨(by decide : ¬ (6 : Int32) = 14), (by decide : ¬ (6 : Int32) = 13)⟩
    rw [if_neg c6]
    by_cases c7 : r1 = r8
    · rw [if_pos c7]
      exact ⟨(by decide : ¬ (7 : Int32) = 14), (by decide : ¬ (7 : Int32) = 13)⟩
    rw [if_neg c7]
    by_cases c8 : r1 = r9
    · rw [if_pos c8]
      exact ⟨(by decide : ¬ (8 : Int32) = 14), (by decide : ¬ (8 : Int32) = 13)⟩
    rw [if_neg c8]
    by_cases c9 : r1 = r10
    · rw [if_pos c9]
      exact ⟨(by decide : ¬ (9 : Int32) = 14), (by decide : ¬ (9 : Int32) = 13)⟩
    rw [if_neg c9]
    by_cases c10 : r1 = r11
    · rw [if_pos c10]
      exact ⟨(by decide : ¬ (10 : Int32) = 14), (by decide : ¬ (10 : Int32) = 13)⟩
    rw [if_neg c10]
    by_cases c11 : r1 = r12
    · rw [if_pos c11]
      exact ⟨(by decide : ¬ (11 : Int32) = 14), (by decide : ¬ (11 : Int32) = 13)⟩
    rw [if_neg c11]
    by_cases c12 : r1 = r13
    · rw [if_pos c12]
      exact ⟨(by decide : ¬ (12 : Int32) = 14), (by decide : ¬ (12 : Int32) = 13)⟩
    rw [if_neg c12]
    exact ⟨(by decide : ¬ (31 : Int32) = 14), (by decide : ¬ (31 : Int32) = 13)⟩
  by_cases hc : z - x = 1
  · unfold s_Mo_classify
    rw [if_pos hc]
    split
    · exact ⟨fun _ => ⟨by rw [h2]; omega, by rw [h2]; omega⟩, fun h => absurd h (by dsimp only; decide)⟩
    · rename_i h3
      rw [Int32.le_iff_toInt_le, h2, show (6 : Int32).toInt = 6 by decide] at h3
      exact ⟨fun h => absurd h (by dsimp only; decide), fun _ => ⟨by rw [h2]; omega, by rw [h2]; omega⟩⟩
  · unfold s_Mo_classify
    rw [if_neg hc]
    have h3 : ncl _ := key (lp_Mo_wordAt_5 f x z (((z.toInt - x.toInt).toNat) + 1) (0 : Int32) x) (s_Mo_wordOf 108 101 116 0 0) (s_Mo_wordOf 99 111 117 110 116) (s_Mo_wordOf 115 117 109 0 0) (s_Mo_wordOf 98 105 110 115 0) (s_Mo_wordOf 119 104 101 114 101) (s_Mo_wordOf 105 110 0 0 0) (s_Mo_wordOf 116 111 0 0 0) (s_Mo_wordOf 98 121 0 0 0) (s_Mo_wordOf 102 114 111 109 0) (s_Mo_wordOf 110 111 116 0 0) (s_Mo_wordOf 97 110 100 0 0) (s_Mo_wordOf 111 114 0 0 0)
    exact ⟨fun h => absurd h h3.1, fun h => absurd h h3.2⟩
theorem lk {f : Nat → Int32} {sg a0 : Int32} (hu : LU sg a0) : LK sg a0 (s_Mo_look f sg a0).1 (s_Mo_look f sg a0).2.1 (s_Mo_look f sg a0).2.2.1 (s_Mo_look f sg a0).2.2.2 := by
  unfold s_Mo_look
  obtain ⟨h1, h2⟩ := lk_0 (f := f) (((sg.toInt - a0.toInt).toNat) + 1) a0 hu
  generalize lp_Mo_look_0 f sg (((sg.toInt - a0.toInt).toNat) + 1) a0 = r1 at h1 h2 ⊢
  dsimp only
  split
  · show LK sg a0 r1 r1 30 0
    exact ⟨h1, h2, Int.le_refl _, fun h => absurd rfl h, fun h => absurd h (by decide), fun h => absurd h (by decide)⟩
  · rename_i hne
    have hq := h1.n hne
    split
    · split
      · split
        · have h5 := lk_cs (f := f) hq
          show LK sg a0 (s_Mo_compareSign f sg r1).1 r1 (s_Mo_compareSign f sg r1).2 0
          exact ⟨h5.1, h2, Int.le_of_lt h5.2.1, fun _ => h5.2.1, fun h => absurd h h5.2.2.1, fun h => absurd h h5.2.2.2⟩
        · split
          · have h5 := lk_cs (f := f) hq
            show LK sg a0 (s_Mo_compareSign f sg r1).1 r1 (s_Mo_compareSign f sg r1).2 0
            exact ⟨h5.1, h2, Int.le_of_lt h5.2.1, fun _ => h5.2.1, fun h => absurd h h5.2.2.1, fun h => absurd h h5.2.2.2⟩
          · have h5 := lk_sk (f r1.toNatClampNeg)
            have h6 := hq.lt
            show LK sg a0 (r1 + 1) r1 (s_Mo_signKind (f r1.toNatClampNeg)) 0
            exact ⟨hq.s, h2, by show r1.toInt ≤ (r1 + 1).toInt; omega, fun _ => by show r1.toInt < (r1 + 1).toInt; omega, fun h => absurd h h5.1, fun h => absurd h h5.2⟩
      · rename_i hd
        have h5 := lk_rn (f := f) (((sg.toInt - r1.toInt).toNat) + 1) 0 r1 15 h1
        have h6 := lk_rns (f := f) ((sg.toInt - r1.toInt).toNat) 0 r1 15 hq hd
        refine ⟨h5.1, h2, h5.2.1, fun _ => h6, fun h => ?_, fun h => ?_⟩
        · rcases h5.2.2 with g | g <;> exact absurd (g.symm.trans h) (by decide)
        · rcases h5.2.2 with g | g <;> exact absurd (g.symm.trans h) (by decide)
    · rename_i hs
      have h5 := lk_86s (f := f) ((sg.toInt - r1.toInt).toNat) (f r1.toNatClampNeg) r1 r1 0 hq hs
      have h6 := lk_cl (f := f) (v := 0) (x := r1) (z := lp_Mo_look_86 f sg ((sg.toInt - r1.toInt).toNat + 1) (f r1.toNatClampNeg) r1 r1 0) hs
      exact ⟨h5.1, h2, Int.le_of_lt h5.2, fun _ => h5.2, h6.1, h6.2⟩
/-- the reader's state: tokens laid, places in the text, letters of names and columns -/
def PI (sg at_ tk kd vl : Int32) : Prop := 0 ≤ tk.toInt ∧ tk.toInt ≤ at_.toInt ∧ LU sg at_ ∧ (¬ kd = 30 → tk.toInt < at_.toInt) ∧ (kd = 14 → up vl 25) ∧ (kd = 13 → up vl 5)
theorem PI.tk {sg a tk kd vl : Int32} (h : PI sg a tk kd vl) (hk : ¬ kd = 30) : vp_in tk 2000 := ly_mk h.1 (by have h1 := h.2.2.2.1 hk; have h2 := h.2.2.1.2; omega)
theorem PI.go {f : Nat → Int32} {sg a tk kd vl : Int32} (h : PI sg a tk kd vl) (hk : ¬ kd = 30) : PI sg (s_Mo_look f sg a).1 (tk + 1) (s_Mo_look f sg a).2.2.1 (s_Mo_look f sg a).2.2.2 := by
  obtain ⟨h1, h2, h3, h4, h5, h6⟩ := h
  have h7 := h4 hk
  have h8 : (tk + 1).toInt = tk.toInt + 1 := i32_succ (by have := h3.2; omega)
  obtain ⟨g1, g2, g3, g4, g5, g6⟩ := lk (f := f) h3
  exact ⟨by omega, by omega, g1, fun h => by have := g4 h; omega, g5, g6⟩
def s_Mo_passOne (f_text : Nat → Int32) (v_signs : Int32) (f_kinds : Nat → Int32) (f_values : Nat → Int32) (v_tokens : Int32) (v_at : Int32) (v_place : Int32) (v_kind : Int32) (v_value : Int32) (x : Int32) : Int32 × Int32 × Int32 × Int32 × Int32 × Int32 × (Nat → Int32) × (Nat → Int32) :=
  if v_kind = x then (let r1 := (s_Mo_pass f_text v_signs f_kinds f_values v_tokens v_at v_kind v_value);
    (1, r1.1, r1.2.1, r1.2.2.1, r1.2.2.2.1, r1.2.2.2.2.1, r1.2.2.2.2.2.1, r1.2.2.2.2.2.2))
  else (0, v_tokens, v_at, v_place, v_kind, v_value, f_kinds, f_values)
def s_Mo_passNumber (f_text : Nat → Int32) (v_signs : Int32) (f_kinds : Nat → Int32) (f_values : Nat → Int32) (v_tokens : Int32) (v_at : Int32) (v_place : Int32) (v_kind : Int32) (v_value : Int32) (x : Int32) (z : Int32) : Int32 × Int32 × Int32 × Int32 × Int32 × Int32 × (Nat → Int32) × (Nat → Int32) :=
  if v_kind = 15 then (let r1 := (s_Mo_in v_value x z);
    if r1 = 0 then (0, v_tokens, v_at, v_place, v_kind, v_value, f_kinds, f_values)
    else let r2 := (s_Mo_pass f_text v_signs f_kinds f_values v_tokens v_at v_kind v_value);
    (1, r2.1, r2.2.1, r2.2.2.1, r2.2.2.2.1, r2.2.2.2.2.1, r2.2.2.2.2.2.1, r2.2.2.2.2.2.2))
  else (0, v_tokens, v_at, v_place, v_kind, v_value, f_kinds, f_values)
def s_Mo_lay (f_code : Nat → Int32) (v_size : Int32) (x : Int32) (z : Int32) : Int32 × (Nat → Int32) :=
  (v_size + 2, upd (upd f_code v_size.toNatClampNeg x) (v_size + 1).toNatClampNeg z)
def s_Mo_deeper (f_text : Nat → Int32) (v_signs : Int32) (f_kinds : Nat → Int32) (f_values : Nat → Int32) (v_tokens : Int32) (v_at : Int32) (v_place : Int32) (v_kind : Int32) (v_value : Int32) (v_depth : Int32) : Int32 × Int32 × Int32 × Int32 × Int32 × Int32 × Int32 × (Nat → Int32) × (Nat → Int32) :=
  if v_depth = 20 then (0, v_tokens, v_at, v_place, v_kind, v_value, v_depth, f_kinds, f_values)
  else let r1 := (s_Mo_pass f_text v_signs f_kinds f_values v_tokens v_at v_kind v_value);
  (1, r1.1, r1.2.1, r1.2.2.1, r1.2.2.2.1, r1.2.2.2.2.1, (v_depth + 1), r1.2.2.2.2.2.1, r1.2.2.2.2.2.2)
def s_Mo_ask (f_text : Nat → Int32) (v_signs : Int32) (f_kinds : Nat → Int32) (f_values : Nat → Int32) (v_tokens : Int32) (v_at : Int32) (v_place : Int32) (v_kind : Int32) (v_value : Int32) (v_asked : Int32) : Int32 × Int32 × Int32 × Int32 × Int32 × Int32 × Int32 × (Nat → Int32) × (Nat → Int32) :=
  if v_asked = 150 then (0, v_tokens, v_at, v_place, v_kind, v_value, v_asked, f_kinds, f_values)
  else let r1 := (s_Mo_pass f_text v_signs f_kinds f_values v_tokens v_at v_kind v_value);
  (1, r1.1, r1.2.1, r1.2.2.1, r1.2.2.2.1, r1.2.2.2.2.1, (v_asked + 1), r1.2.2.2.2.2.1, r1.2.2.2.2.2.2)
def s_Mo_close (f_text : Nat → Int32) (v_signs : Int32) (f_kinds : Nat → Int32) (f_values : Nat → Int32) (v_tokens : Int32) (v_at : Int32) (v_place : Int32) (v_kind : Int32) (v_value : Int32) (v_depth : Int32) (x : Int32) : Int32 × Int32 × Int32 × Int32 × Int32 × Int32 × Int32 × (Nat → Int32) × (Nat → Int32) :=
  let r1 := (s_Mo_passOne f_text v_signs f_kinds f_values v_tokens v_at v_place v_kind v_value x);
  (r1.1, r1.2.1, r1.2.2.1, r1.2.2.2.1, r1.2.2.2.2.1, r1.2.2.2.2.2.1, (v_depth - 1), r1.2.2.2.2.2.2.1, r1.2.2.2.2.2.2.2)
def s_Mo_readSign (f_text : Nat → Int32) (v_signs : Int32) (f_kinds : Nat → Int32) (f_values : Nat → Int32) (v_tokens : Int32) (v_at : Int32) (v_place : Int32) (v_kind : Int32) (v_value : Int32) (v_asked : Int32) (f_goals : Nat → Int32) (f_withs : Nat → Int32) (v_goalCount : Int32) : Int32 × Int32 × Int32 × Int32 × Int32 × Int32 × Int32 × Int32 × (Nat → Int32) × (Nat → Int32) × (Nat → Int32) × (Nat → Int32) :=
  let r1 := (s_Mo_in v_kind 17 22);
  if r1 = 0 then (0, v_tokens, v_at, v_place, v_kind, v_value, v_asked, v_goalCount, f_kinds, f_values, f_goals, f_withs)
  else let r2 := (s_Mo_ask f_text v_signs f_kinds f_values v_tokens v_at v_place v_kind v_value v_asked);
  (r2.1, r2.2.1, r2.2.2.1, r2.2.2.2.1, r2.2.2.2.2.1, r2.2.2.2.2.2.1, r2.2.2.2.2.2.2.1, ((v_goalCount + 1) + 1), r2.2.2.2.2.2.2.2.1, r2.2.2.2.2.2.2.2.2, upd (upd f_goals v_goalCount.toNatClampNeg 12) (v_goalCount + 1).toNatClampNeg 6, upd (upd f_withs v_goalCount.toNatClampNeg v_kind) (v_goalCount + 1).toNatClampNeg 0)
def s_Mo_readFactor (f_text : Nat → Int32) (v_signs : Int32) (f_kinds : Nat → Int32) (f_values : Nat → Int32) (v_tokens : Int32) (v_at : Int32) (v_place : Int32) (v_kind : Int32) (v_value : Int32) (v_depth : Int32) (f_code : Nat → Int32) (v_size : Int32) (f_goals : Nat → Int32) (f_withs : Nat → Int32) (v_goalCount : Int32) : Int32 × Int32 × Int32 × Int32 × Int32 × Int32 × Int32 × Int32 × Int32 × (Nat → Int32) × (Nat → Int32) × (Nat → Int32) × (Nat → Int32) × (Nat → Int32) :=
  if v_kind = 15 then (let r1 := (s_Mo_lay f_code v_size v_kind v_value);
    let r2 := (s_Mo_pass f_text v_signs f_kinds f_values v_tokens v_at v_kind v_value);
    (1, r2.1, r2.2.1, r2.2.2.1, r2.2.2.2.1, r2.2.2.2.2.1, v_depth, r1.1, v_goalCount, r2.2.2.2.2.2.1, r2.2.2.2.2.2.2, r1.2, f_goals, f_withs))
  else if v_kind = 13 then (let r5 := (s_Mo_lay f_code v_size v_kind v_value);
    let r6 := (s_Mo_pass f_text v_signs f_kinds f_values v_tokens v_at v_kind v_value);
    (1, r6.1, r6.2.1, r6.2.2.1, r6.2.2.2.1, r6.2.2.2.2.1, v_depth, r5.1, v_goalCount, r6.2.2.2.2.2.1, r6.2.2.2.2.2.2, r5.2, f_goals, f_withs))
  else if v_kind = 24 then (let r4 := (s_Mo_deeper f_text v_signs f_kinds f_values v_tokens v_at v_place v_kind v_value v_depth);
    (r4.1, r4.2.1, r4.2.2.1, r4.2.2.2.1, r4.2.2.2.2.1, r4.2.2.2.2.2.1, r4.2.2.2.2.2.2.1, v_size, (((v_goalCount + 1) + 1) + 1), r4.2.2.2.2.2.2.2.1, r4.2.2.2.2.2.2.2.2, f_code, upd (upd (upd f_goals v_goalCount.toNatClampNeg 15) (v_goalCount + 1).toNatClampNeg 12) ((v_goalCount + 1) + 1).toNatClampNeg 10, upd (upd (upd f_withs v_goalCount.toNatClampNeg 0) (v_goalCount + 1).toNatClampNeg 41) ((v_goalCount + 1) + 1).toNatClampNeg 0))
  else if v_kind = 26 then (let r3 := (s_Mo_deeper f_text v_signs f_kinds f_values v_tokens v_at v_place v_kind v_value v_depth);
    (r3.1, r3.2.1, r3.2.2.1, r3.2.2.2.1, r3.2.2.2.2.1, r3.2.2.2.2.2.1, r3.2.2.2.2.2.2.1, v_size, ((v_goalCount + 1) + 1), r3.2.2.2.2.2.2.2.1, r3.2.2.2.2.2.2.2.2, f_code, upd (upd f_goals v_goalCount.toNatClampNeg 13) (v_goalCount + 1).toNatClampNeg 6, upd (upd f_withs v_goalCount.toNatClampNeg 0) (v_goalCount + 1).toNatClampNeg 0))
  else (0, v_tokens, v_at, v_place, v_kind, v_value, v_depth, v_size, v_goalCount, f_kinds, f_values, f_code, f_goals, f_withs)
def s_Mo_readNot (f_text : Nat → Int32) (v_signs : Int32) (f_kinds : Nat → Int32) (f_values : Nat → Int32) (v_tokens : Int32) (v_at : Int32) (v_place : Int32) (v_kind : Int32) (v_value : Int32) (v_depth : Int32) (v_asked : Int32) (f_isTold : Nat → Int32) (f_letOf : Nat → Int32) (f_code : Nat → Int32) (v_size : Int32) (f_goals : Nat → Int32) (f_withs : Nat → Int32) (v_goalCount : Int32) : Int32 × Int32 × Int32 × Int32 × Int32 × Int32 × Int32 × Int32 × Int32 × Int32 × (Nat → Int32) × (Nat → Int32) × (Nat → Int32) × (Nat → Int32) × (Nat → Int32) :=
  if v_kind = 10 then (let r5 := (s_Mo_deeper f_text v_signs f_kinds f_values v_tokens v_at v_place v_kind v_value v_depth);
    (r5.1, r5.2.1, r5.2.2.1, r5.2.2.2.1, r5.2.2.2.2.1, r5.2.2.2.2.2.1, r5.2.2.2.2.2.2.1, v_asked, v_size, (((v_goalCount + 1) + 1) + 1), r5.2.2.2.2.2.2.2.1, r5.2.2.2.2.2.2.2.2, f_code, upd (upd (upd f_goals v_goalCount.toNatClampNeg 15) (v_goalCount + 1).toNatClampNeg 12) ((v_goalCount + 1) + 1).toNatClampNeg 5, upd (upd (upd f_withs v_goalCount.toNatClampNeg 0) (v_goalCount + 1).toNatClampNeg 10) ((v_goalCount + 1) + 1).toNatClampNeg 0))
  else if v_kind = 28 then (let r4 := (s_Mo_deeper f_text v_signs f_kinds f_values v_tokens v_at v_place v_kind v_value v_depth);
    (r4.1, r4.2.1, r4.2.2.1, r4.2.2.2.1, r4.2.2.2.2.1, r4.2.2.2.2.2.1, r4.2.2.2.2.2.2.1, v_asked, v_size, ((v_goalCount + 1) + 1), r4.2.2.2.2.2.2.2.1, r4.2.2.2.2.2.2.2.2, f_code, upd (upd f_goals v_goalCount.toNatClampNeg 14) (v_goalCount + 1).toNatClampNeg 1, upd (upd f_withs v_goalCount.toNatClampNeg 0) (v_goalCount + 1).toNatClampNeg 0))
  else if v_kind = 14 then (if (f_isTold v_value.toNatClampNeg) = 0 then (0, v_tokens, v_at, v_place, v_kind, v_value, v_depth, v_asked, v_size, v_goalCount, f_kinds, f_values, f_code, f_goals, f_withs)
    else let r2 := (s_Mo_lay f_code v_size 40 (f_letOf v_value.toNatClampNeg));
    let r3 := (s_Mo_ask f_text v_signs f_kinds f_values v_tokens v_at v_place v_kind v_value v_asked);
    (r3.1, r3.2.1, r3.2.2.1, r3.2.2.2.1, r3.2.2.2.2.1, r3.2.2.2.2.2.1, v_depth, r3.2.2.2.2.2.2.1, r2.1, v_goalCount, r3.2.2.2.2.2.2.2.1, r3.2.2.2.2.2.2.2.2, r2.2, f_goals, f_withs))
  else let r1 := (s_Mo_isSumStart v_kind);
  if r1 = 0 then (0, v_tokens, v_at, v_place, v_kind, v_value, v_depth, v_asked, v_size, v_goalCount, f_kinds, f_values, f_code, f_goals, f_withs)
  else (1, v_tokens, v_at, v_place, v_kind, v_value, v_depth, v_asked, v_size, (v_goalCount + 1) + 1, f_kinds, f_values, f_code, upd (upd f_goals v_goalCount.toNatClampNeg 11) (v_goalCount + 1).toNatClampNeg 6, upd (upd f_withs v_goalCount.toNatClampNeg 0) (v_goalCount + 1).toNatClampNeg 0)
def s_Mo_more (f_text : Nat → Int32) (v_signs : Int32) (f_kinds : Nat → Int32) (f_values : Nat → Int32) (v_tokens : Int32) (v_at : Int32) (v_place : Int32) (v_kind : Int32) (v_value : Int32) (v_asked : Int32) (f_goals : Nat → Int32) (f_withs : Nat → Int32) (v_goalCount : Int32) (x : Int32) (z : Int32) (pt : Int32) (ag : Int32) (cn : Int32) : Int32 × Int32 × Int32 × Int32 × Int32 × Int32 × Int32 × Int32 × (Nat → Int32) × (Nat → Int32) × (Nat → Int32) × (Nat → Int32) :=
  if v_kind = x then (if cn = 0 then (let r1 := (s_Mo_pass f_text v_signs f_kinds f_values v_tokens v_at v_kind v_value);
      (1, r1.1, r1.2.1, r1.2.2.1, r1.2.2.2.1, r1.2.2.2.2.1, v_asked, (((v_goalCount + 1) + 1) + 1), r1.2.2.2.2.2.1, r1.2.2.2.2.2.2, upd (upd (upd f_goals v_goalCount.toNatClampNeg ag) (v_goalCount + 1).toNatClampNeg 12) ((v_goalCount + 1) + 1).toNatClampNeg pt, upd (upd (upd f_withs v_goalCount.toNatClampNeg 0) (v_goalCount + 1).toNatClampNeg v_kind) ((v_goalCount + 1) + 1).toNatClampNeg 0))
    else let r2 := (s_Mo_ask f_text v_signs f_kinds f_values v_tokens v_at v_place v_kind v_value v_asked);
    (r2.1, r2.2.1, r2.2.2.1, r2.2.2.2.1, r2.2.2.2.2.1, r2.2.2.2.2.2.1, r2.2.2.2.2.2.2.1, (((v_goalCount + 1) + 1) + 1), r2.2.2.2.2.2.2.2.1, r2.2.2.2.2.2.2.2.2, upd (upd (upd f_goals v_goalCount.toNatClampNeg ag) (v_goalCount + 1).toNatClampNeg 12) ((v_goalCount + 1) + 1).toNatClampNeg pt, upd (upd (upd f_withs v_goalCount.toNatClampNeg 0) (v_goalCount + 1).toNatClampNeg v_kind) ((v_goalCount + 1) + 1).toNatClampNeg 0))
  else if v_kind = z then (if cn = 0 then (let r3 := (s_Mo_pass f_text v_signs f_kinds f_values v_tokens v_at v_kind v_value);
      (1, r3.1, r3.2.1, r3.2.2.1, r3.2.2.2.1, r3.2.2.2.2.1, v_asked, (((v_goalCount + 1) + 1) + 1), r3.2.2.2.2.2.1, r3.2.2.2.2.2.2, upd (upd (upd f_goals v_goalCount.toNatClampNeg ag) (v_goalCount + 1).toNatClampNeg 12) ((v_goalCount + 1) + 1).toNatClampNeg pt, upd (upd (upd f_withs v_goalCount.toNatClampNeg 0) (v_goalCount + 1).toNatClampNeg v_kind) ((v_goalCount + 1) + 1).toNatClampNeg 0))
    else let r4 := (s_Mo_ask f_text v_signs f_kinds f_values v_tokens v_at v_place v_kind v_value v_asked);
    (r4.1, r4.2.1, r4.2.2.1, r4.2.2.2.1, r4.2.2.2.2.1, r4.2.2.2.2.2.1, r4.2.2.2.2.2.2.1, (((v_goalCount + 1) + 1) + 1), r4.2.2.2.2.2.2.2.1, r4.2.2.2.2.2.2.2.2, upd (upd (upd f_goals v_goalCount.toNatClampNeg ag) (v_goalCount + 1).toNatClampNeg 12) ((v_goalCount + 1) + 1).toNatClampNeg pt, upd (upd (upd f_withs v_goalCount.toNatClampNeg 0) (v_goalCount + 1).toNatClampNeg v_kind) ((v_goalCount + 1) + 1).toNatClampNeg 0))
  else (1, v_tokens, v_at, v_place, v_kind, v_value, v_asked, v_goalCount, f_kinds, f_values, f_goals, f_withs)
def s_Mo_reach (f_text : Nat → Int32) (v_signs : Int32) (f_kinds : Nat → Int32) (f_values : Nat → Int32) (v_tokens : Int32) (v_at : Int32) (v_place : Int32) (v_kind : Int32) (v_value : Int32) (v_depth : Int32) (v_asked : Int32) (f_isTold : Nat → Int32) (f_letOf : Nat → Int32) (f_code : Nat → Int32) (v_size : Int32) (f_goals : Nat → Int32) (f_withs : Nat → Int32) (v_goalCount : Int32) (x : Int32) (z : Int32) : Int32 × Int32 × Int32 × Int32 × Int32 × Int32 × Int32 × Int32 × Int32 × Int32 × (Nat → Int32) × (Nat → Int32) × (Nat → Int32) × (Nat → Int32) × (Nat → Int32) :=
  if x = 1 then (1, v_tokens, v_at, v_place, v_kind, v_value, v_depth, v_asked, v_size, (v_goalCount + 1) + 1, f_kinds, f_values, f_code, upd (upd f_goals v_goalCount.toNatClampNeg 2) (v_goalCount + 1).toNatClampNeg 3, upd (upd f_withs v_goalCount.toNatClampNeg 0) (v_goalCount + 1).toNatClampNeg 0)
  else if x = 2 then (let r1 := (s_Mo_more f_text v_signs f_kinds f_values v_tokens v_at v_place v_kind v_value v_asked f_goals f_withs v_goalCount 12 12 3 2 1);
    (r1.1, r1.2.1, r1.2.2.1, r1.2.2.2.1, r1.2.2.2.2.1, r1.2.2.2.2.2.1, v_depth, r1.2.2.2.2.2.2.1, v_size, r1.2.2.2.2.2.2.2.1, r1.2.2.2.2.2.2.2.2.1, r1.2.2.2.2.2.2.2.2.2.1, f_code, r1.2.2.2.2.2.2.2.2.2.2.1, r1.2.2.2.2.2.2.2.2.2.2.2))
  else if x = 3 then (1, v_tokens, v_at, v_place, v_kind, v_value, v_depth, v_asked, v_size, (v_goalCount + 1) + 1, f_kinds, f_values, f_code, upd (upd f_goals v_goalCount.toNatClampNeg 4) (v_goalCount + 1).toNatClampNeg 5, upd (upd f_withs v_goalCount.toNatClampNeg 0) (v_goalCount + 1).toNatClampNeg 0)
  else if x = 4 then (let r2 := (s_Mo_more f_text v_signs f_kinds f_values v_tokens v_at v_place v_kind v_value v_asked f_goals f_withs v_goalCount 11 11 5 4 1);
    (r2.1, r2.2.1, r2.2.2.1, r2.2.2.2.1, r2.2.2.2.2.1, r2.2.2.2.2.2.1, v_depth, r2.2.2.2.2.2.2.1, v_size, r2.2.2.2.2.2.2.2.1, r2.2.2.2.2.2.2.2.2.1, r2.2.2.2.2.2.2.2.2.2.1, f_code, r2.2.2.2.2.2.2.2.2.2.2.1, r2.2.2.2.2.2.2.2.2.2.2.2))
  else if x = 5 then (let r3 := (s_Mo_readNot f_text v_signs f_kinds f_values v_tokens v_at v_place v_kind v_value v_depth v_asked f_isTold f_letOf f_code v_size f_goals f_withs v_goalCount);
    (r3.1, r3.2.1, r3.2.2.1, r3.2.2.2.1, r3.2.2.2.2.1, r3.2.2.2.2.2.1, r3.2.2.2.2.2.2.1, r3.2.2.2.2.2.2.2.1, r3.2.2.2.2.2.2.2.2.1, r3.2.2.2.2.2.2.2.2.2.1, r3.2.2.2.2.2.2.2.2.2.2.1, r3.2.2.2.2.2.2.2.2.2.2.2.1, r3.2.2.2.2.2.2.2.2.2.2.2.2.1, r3.2.2.2.2.2.2.2.2.2.2.2.2.2.1, r3.2.2.2.2.2.2.2.2.2.2.2.2.2.2))
  else if x = 6 then (1, v_tokens, v_at, v_place, v_kind, v_value, v_depth, v_asked, v_size, (v_goalCount + 1) + 1, f_kinds, f_values, f_code, upd (upd f_goals v_goalCount.toNatClampNeg 7) (v_goalCount + 1).toNatClampNeg 8, upd (upd f_withs v_goalCount.toNatClampNeg 0) (v_goalCount + 1).toNatClampNeg 0)
  else if x = 7 then (let r4 := (s_Mo_more f_text v_signs f_kinds f_values v_tokens v_at v_place v_kind v_value v_asked f_goals f_withs v_goalCount 23 24 8 7 0);
    (r4.1, r4.2.1, r4.2.2.1, r4.2.2.2.1, r4.2.2.2.2.1, r4.2.2.2.2.2.1, v_depth, r4.2.2.2.2.2.2.1, v_size, r4.2.2.2.2.2.2.2.1, r4.2.2.2.2.2.2.2.2.1, r4.2.2.2.2.2.2.2.2.2.1, f_code, r4.2.2.2.2.2.2.2.2.2.2.1, r4.2.2.2.2.2.2.2.2.2.2.2))
  else if x = 8 then (1, v_tokens, v_at, v_place, v_kind, v_value, v_depth, v_asked, v_size, (v_goalCount + 1) + 1, f_kinds, f_values, f_code, upd (upd f_goals v_goalCount.toNatClampNeg 9) (v_goalCount + 1).toNatClampNeg 10, upd (upd f_withs v_goalCount.toNatClampNeg 0) (v_goalCount + 1).toNatClampNeg 0)
  else if x = 9 then (let r5 := (s_Mo_more f_text v_signs f_kinds f_values v_tokens v_at v_place v_kind v_value v_asked f_goals f_withs v_goalCount 25 25 10 9 0);
    (r5.1, r5.2.1, r5.2.2.1, r5.2.2.2.1, r5.2.2.2.2.1, r5.2.2.2.2.2.1, v_depth, r5.2.2.2.2.2.2.1, v_size, r5.2.2.2.2.2.2.2.1, r5.2.2.2.2.2.2.2.2.1, r5.2.2.2.2.2.2.2.2.2.1, f_code, r5.2.2.2.2.2.2.2.2.2.2.1, r5.2.2.2.2.2.2.2.2.2.2.2))
  else if x = 10 then (let r6 := (s_Mo_readFactor f_text v_signs f_kinds f_values v_tokens v_at v_place v_kind v_value v_depth f_code v_size f_goals f_withs v_goalCount);
    (r6.1, r6.2.1, r6.2.2.1, r6.2.2.2.1, r6.2.2.2.2.1, r6.2.2.2.2.2.1, r6.2.2.2.2.2.2.1, v_asked, r6.2.2.2.2.2.2.2.1, r6.2.2.2.2.2.2.2.2.1, r6.2.2.2.2.2.2.2.2.2.1, r6.2.2.2.2.2.2.2.2.2.2.1, r6.2.2.2.2.2.2.2.2.2.2.2.1, r6.2.2.2.2.2.2.2.2.2.2.2.2.1, r6.2.2.2.2.2.2.2.2.2.2.2.2.2))
  else if x = 11 then (let r7 := (s_Mo_readSign f_text v_signs f_kinds f_values v_tokens v_at v_place v_kind v_value v_asked f_goals f_withs v_goalCount);
    (r7.1, r7.2.1, r7.2.2.1, r7.2.2.2.1, r7.2.2.2.2.1, r7.2.2.2.2.2.1, v_depth, r7.2.2.2.2.2.2.1, v_size, r7.2.2.2.2.2.2.2.1, r7.2.2.2.2.2.2.2.2.1, r7.2.2.2.2.2.2.2.2.2.1, f_code, r7.2.2.2.2.2.2.2.2.2.2.1, r7.2.2.2.2.2.2.2.2.2.2.2))
  else if x = 12 then (let r8 := (s_Mo_lay f_code v_size z 0);
    (1, v_tokens, v_at, v_place, v_kind, v_value, v_depth, v_asked, r8.1, v_goalCount, f_kinds, f_values, r8.2, f_goals, f_withs))
  else if x = 13 then (let r9 := (s_Mo_close f_text v_signs f_kinds f_values v_tokens v_at v_place v_kind v_value v_depth 27);
    (r9.1, r9.2.1, r9.2.2.1, r9.2.2.2.1, r9.2.2.2.2.1, r9.2.2.2.2.2.1, r9.2.2.2.2.2.2.1, v_asked, v_size, v_goalCount, r9.2.2.2.2.2.2.2.1, r9.2.2.2.2.2.2.2.2, f_code, f_goals, f_withs))
  else if x = 14 then (let r10 := (s_Mo_close f_text v_signs f_kinds f_values v_tokens v_at v_place v_kind v_value v_depth 29);
    (r10.1, r10.2.1, r10.2.2.1, r10.2.2.2.1, r10.2.2.2.2.1, r10.2.2.2.2.2.1, r10.2.2.2.2.2.2.1, v_asked, v_size, v_goalCount, r10.2.2.2.2.2.2.2.1, r10.2.2.2.2.2.2.2.2, f_code, f_goals, f_withs))
  else (1, v_tokens, v_at, v_place, v_kind, v_value, v_depth - 1, v_asked, v_size, v_goalCount, f_kinds, f_values, f_code, f_goals, f_withs)
def lp_Mo_drop_22 (v_rows : Int32) : Nat → Int32 → (Nat → Int32) → Int32 × Int32 × (Nat → Int32)
  | 0, _, g => (0, v_rows, g)
  | n + 1, i, g =>
    if ((6 * v_rows) - 6) ≤ i then (v_rows - 1, v_rows - 1, g)
    else (lp_Mo_drop_22 v_rows n (i + 1) (upd g i.toNatClampNeg (g (i + 6).toNatClampNeg)))
def s_Mo_drop (f_table : Nat → Int32) (v_rows : Int32) (row : Int32) : Int32 × Int32 × (Nat → Int32) :=
  let r1 := (s_Mo_in row 0 (v_rows - 1));
  if r1 = 0 then ((-101), v_rows, f_table)
  else (lp_Mo_drop_22 v_rows ((((6 * v_rows - 6).toInt - (6 * row).toInt).toNat) + 1) (6 * row) f_table)
theorem x12 {x : Int32} (h : up x 11) : vp_in x 12 := ly_mk h.1 (by have := h.2; omega)
/-- a by that is 0 divides nothing: of the questions there are -/
def BYP (f : Nat → Int32) (n : Int32) : Prop := ∀ j : Nat, (j : Int) < n.toInt → ¬ f j = 0
def s_Mo_unitsOf (f_aSort : Nat → Int32) (f_aHigh : Nat → Int32) (f_aBy : Nat → Int32) (x : Int32) : Int32 :=
  if (f_aSort x.toNatClampNeg) = 1 then ((((f_aHigh x.toNatClampNeg) + (f_aBy x.toNatClampNeg)) - 1) / (f_aBy x.toNatClampNeg))
  else 1
def s_Mo_numbersOf (f_aSort : Nat → Int32) (f_aLow : Nat → Int32) (f_aHigh : Nat → Int32) (x : Int32) : Int32 :=
  if (f_aSort x.toNatClampNeg) = 2 then (((f_aHigh x.toNatClampNeg) - (f_aLow x.toNatClampNeg)) + 1)
  else 1
def s_Mo_aspect (f_aSort : Nat → Int32) (f_aLow : Nat → Int32) (f_aHigh : Nat → Int32) (f_aBy : Nat → Int32) (f_aTop : Nat → Int32) (x : Int32) (z : Int32) : Int32 :=
  if z = 0 then (f_aSort x.toNatClampNeg)
  else if z = 1 then (let r3 := (s_Mo_unitsOf f_aSort f_aHigh f_aBy x);
    r3)
  else if z = 2 then (let r2 := (s_Mo_numbersOf f_aSort f_aLow f_aHigh x);
    r2)
  else if z = 3 then (f_aTop x.toNatClampNeg)
  else let r1 := (s_Mo_numbersOf f_aSort f_aLow f_aHigh x);
  (r1 * ((f_aTop x.toNatClampNeg) + 1))
def s_Mo_question (v_scriptQuestions : Int32) (f_aSort : Nat → Int32) (f_aLow : Nat → Int32) (f_aHigh : Nat → Int32) (f_aBy : Nat → Int32) (f_aTop : Nat → Int32) (x : Int32) (z : Int32) : Int32 :=
  let r1 := (s_Mo_in x 0 (v_scriptQuestions - 1));
  if r1 = 0 then (-101)
  else let r2 := (s_Mo_in z 0 4);
  if r2 = 0 then (-102)
  else let r3 := (s_Mo_aspect f_aSort f_aLow f_aHigh f_aBy f_aTop x z);
  r3
def lp_Mo_wanted_4 (v_scriptQuestions : Int32) (f_aSort : Nat → Int32) (f_aLow : Nat → Int32) (f_aHigh : Nat → Int32) (f_aBy : Nat → Int32) (f_aTop : Nat → Int32) (x : Int32) : Nat → Int32 → Int32 → Int32
  | 0, _, _ => 0
  | n + 1, n9, i =>
    if v_scriptQuestions ≤ i then n9
    else if x = 0 then (let r3 := (s_Mo_aspect f_aSort f_aLow f_aHigh f_aBy f_aTop i 1);
      (lp_Mo_wanted_4 v_scriptQuestions f_aSort f_aLow f_aHigh f_aBy f_aTop x n (n9 + r3) (i + 1)))
    else if x = 1 then (let r2 := (s_Mo_aspect f_aSort f_aLow f_aHigh f_aBy f_aTop i 2);
      (lp_Mo_wanted_4 v_scriptQuestions f_aSort f_aLow f_aHigh f_aBy f_aTop x n (n9 + r2) (i + 1)))
    else let r1 := (s_Mo_aspect f_aSort f_aLow f_aHigh f_aBy f_aTop i 4);
    (lp_Mo_wanted_4 v_scriptQuestions f_aSort f_aLow f_aHigh f_aBy f_aTop x n (n9 + r1) (i + 1))
def s_Mo_wants (v_hasScript : Int32) (v_scriptQuestions : Int32) (f_aSort : Nat → Int32) (f_aLow : Nat → Int32) (f_aHigh : Nat → Int32) (f_aBy : Nat → Int32) (f_aTop : Nat → Int32) (x : Int32) : Int32 :=
  let r1 := (s_Mo_in x 0 2);
  if r1 = 0 then (-102)
  else if v_hasScript = 0 then (-103)
  else let r2 := (lp_Mo_wanted_4 v_scriptQuestions f_aSort f_aLow f_aHigh f_aBy f_aTop x (((v_scriptQuestions.toInt - (0 : Int32).toInt).toNat) + 1) (0 : Int32) (0 : Int32));
  r2
def lp_Mo_noiseAt_30 (v_p : Int32) (v_q : Int32) (f_tape : Nat → Int32) (x : Int32) (z : Int32) : Nat → Int32 → Int32 → Int32
  | 0, _, _ => 0
  | n + 1, u3, k =>
    if z < k then (if ((v_q * (v_q - v_p)) + (v_p * v_q)) ≤ u3 then (-k)
      else k)
    else if (v_p * (v_p + v_q)) ≤ (f_tape (x + k).toNatClampNeg) then (if ((v_q * (v_q - v_p)) + (v_p * v_q)) ≤ u3 then (-k)
      else k)
    else (lp_Mo_noiseAt_30 v_p v_q f_tape x z n u3 (k + 1))
def s_Mo_noiseAt (v_p : Int32) (v_q : Int32) (f_tape : Nat → Int32) (x : Int32) (z : Int32) : Int32 :=
  if (v_q * (v_q - v_p)) ≤ (f_tape x.toNatClampNeg) then (lp_Mo_noiseAt_30 v_p v_q f_tape x z (((z.toInt - (1 : Int32).toInt + 1).toNat) + 1) (f_tape x.toNatClampNeg) (1 : Int32))
  else 0
def s_Mo_told (f_told : Nat → Int32) (v_toldCount : Int32) (x : Int32) : Int32 :=
  let r1 := (s_Mo_in x 0 (v_toldCount - 1));
  if r1 = 0 then (-1)
  else (f_told x.toNatClampNeg)
def s_Mo_noise (v_p : Int32) (v_q : Int32) (f_tape : Nat → Int32) (v_cells : Int32) (x : Int32) (z : Int32) : Int32 :=
  let r1 := (s_Mo_in z 0 30);
  if r1 = 0 then (-102)
  else if 0 ≤ x then (if (lg_cmp ((x.toInt64 + z.toInt64) + 1) v_cells.toInt64) ≤ 0 then (let r2 := (s_Mo_noiseAt v_p v_q f_tape x z);
      r2)
    else (-105))
  else (-102)
def s_Mo_out (f_out : Nat → Int32) (v_outs : Int32) (x : Int32) : Int32 :=
  let r1 := (s_Mo_in x 0 (v_outs - 1));
  if r1 = 0 then (-1)
  else (f_out x.toNatClampNeg)
def lp_Mo_writeNumber_2 (x : Int32) : Nat → Int32 → Int32
  | 0, t => t
  | n + 1, t =>
    if (x / t) < 10 then t
    else (lp_Mo_writeNumber_2 x n (t * 10))
def oklp_Mo_writeNumber_2 (x : Int32) : Nat → Int32 → Prop
  | 0, _ => False
  | n + 1, t =>
    (¬ t = 0) ∧ (if (x / t) < 10 then (True)
    else ((oklp_Mo_writeNumber_2 x n (t * 10))))
def lp_Mo_writeNumber_18 (x : Int32) : Nat → Int32 → (Nat → Int32) → Int32 → Int32 × (Nat → Int32)
  | 0, _, _, _ => (0, (fun _ => 0))
  | n + 1, t, g, k =>
    if t ≤ 0 then (k, g)
    else (lp_Mo_writeNumber_18 x n (t / 10) (upd g k.toNatClampNeg (48 + ((x / t) - (x / t) / 10 * 10))) (k + 1))
def oklp_Mo_writeNumber_18 (x : Int32) : Nat → Int32 → (Nat → Int32) → Int32 → Prop
  | 0, _, _, _ => False
  | n + 1, t, g, k =>
    if t ≤ 0 then (True)
    else ((¬ t = 0) ∧ ((up k 4199) ∧ ((oklp_Mo_writeNumber_18 x n (t / 10) (upd g k.toNatClampNeg (48 + ((x / t) - (x / t) / 10 * 10))) (k + 1)))))
def s_Mo_writeNumber (f_out : Nat → Int32) (v_outs : Int32) (x : Int32) : Int32 × (Nat → Int32) :=
  let r1 := (lp_Mo_writeNumber_2 x 20 (1 : Int32));
  (lp_Mo_writeNumber_18 x 20 r1 f_out v_outs)
def ok_Mo_writeNumber (f_out : Nat → Int32) (v_outs : Int32) (x : Int32) : Prop :=
  ((oklp_Mo_writeNumber_2 x 20 (1 : Int32))) ∧ (let r1 := (lp_Mo_writeNumber_2 x 20 (1 : Int32));
  (oklp_Mo_writeNumber_18 x 20 r1 f_out v_outs))
def s_Mo_writeLetters (f_out : Nat → Int32) (v_outs : Int32) (x1 : Int32) (x2 : Int32) (x3 : Int32) (x4 : Int32) (x5 : Int32) : Int32 × (Nat → Int32) :=
  if x3 = 0 then (if x4 = 0 then (if x5 = 0 then ((v_outs + 1) + 1, upd (upd f_out v_outs.toNatClampNeg x1) (v_outs + 1).toNatClampNeg x2)
      else (((v_outs + 1) + 1) + 1, upd (upd (upd f_out v_outs.toNatClampNeg x1) (v_outs + 1).toNatClampNeg x2) ((v_outs + 1) + 1).toNatClampNeg x5))
    else if x5 = 0 then (((v_outs + 1) + 1) + 1, upd (upd (upd f_out v_outs.toNatClampNeg x1) (v_outs + 1).toNatClampNeg x2) ((v_outs + 1) + 1).toNatClampNeg x4)
    else ((((v_outs + 1) + 1) + 1) + 1, upd (upd (upd (upd f_out v_outs.toNatClampNeg x1) (v_outs + 1).toNatClampNeg x2) ((v_outs + 1) + 1).toNatClampNeg x4) (((v_outs + 1) + 1) + 1).toNatClampNeg x5))
  else if x4 = 0 then (if x5 = 0 then (((v_outs + 1) + 1) + 1, upd (upd (upd f_out v_outs.toNatClampNeg x1) (v_outs + 1).toNatClampNeg x2) ((v_outs + 1) + 1).toNatClampNeg x3)
    else ((((v_outs + 1) + 1) + 1) + 1, upd (upd (upd (upd f_out v_outs.toNatClampNeg x1) (v_outs + 1).toNatClampNeg x2) ((v_outs + 1) + 1).toNatClampNeg x3) (((v_outs + 1) + 1) + 1).toNatClampNeg x5))
  else if x5 = 0 then ((((v_outs + 1) + 1) + 1) + 1, upd (upd (upd (upd f_out v_outs.toNatClampNeg x1) (v_outs + 1).toNatClampNeg x2) ((v_outs + 1) + 1).toNatClampNeg x3) (((v_outs + 1) + 1) + 1).toNatClampNeg x4)
  else (((((v_outs + 1) + 1) + 1) + 1) + 1, upd (upd (upd (upd (upd f_out v_outs.toNatClampNeg x1) (v_outs + 1).toNatClampNeg x2) ((v_outs + 1) + 1).toNatClampNeg x3) (((v_outs + 1) + 1) + 1).toNatClampNeg x4) ((((v_outs + 1) + 1) + 1) + 1).toNatClampNeg x5)
def ok_Mo_writeLetters (v_outs : Int32) (x3 : Int32) (x4 : Int32) (x5 : Int32) : Prop :=
  (up v_outs 4199) ∧ ((up (v_outs + 1) 4199) ∧ (if x3 = 0 then (if x4 = 0 then (if x5 = 0 then (True)
      else ((up ((v_outs + 1) + 1) 4199) ∧ (True)))
    else ((up ((v_outs + 1) + 1) 4199) ∧ (if x5 = 0 then (True)
    else ((up (((v_outs + 1) + 1) + 1) 4199) ∧ (True)))))
  else ((up ((v_outs + 1) + 1) 4199) ∧ (if x4 = 0 then (if x5 = 0 then (True)
    else ((up (((v_outs + 1) + 1) + 1) 4199) ∧ (True)))
  else ((up (((v_outs + 1) + 1) + 1) 4199) ∧ (if x5 = 0 then (True)
  else ((up ((((v_outs + 1) + 1) + 1) + 1) 4199) ∧ (True))))))))
def s_Mo_writeWord (f_out : Nat → Int32) (v_outs : Int32) (x : Int32) : Int32 × (Nat → Int32) :=
  if x = 1 then (let r1 := (s_Mo_writeLetters f_out v_outs 108 101 116 0 0);
    (r1.1, r1.2))
  else if x = 2 then (let r2 := (s_Mo_writeLetters f_out v_outs 99 111 117 110 116);
    (r2.1, r2.2))
  else if x = 3 then (let r3 := (s_Mo_writeLetters f_out v_outs 115 117 109 0 0);
    (r3.1, r3.2))
  else if x = 4 then (let r4 := (s_Mo_writeLetters f_out v_outs 98 105 110 115 0);
    (r4.1, r4.2))
  else if x = 5 then (let r5 := (s_Mo_writeLetters f_out v_outs 119 104 101 114 101);
    (r5.1, r5.2))
  else if x = 6 then (let r6 := (s_Mo_writeLetters f_out v_outs 105 110 0 0 0);
    (r6.1, r6.2))
  else if x = 7 then (let r7 := (s_Mo_writeLetters f_out v_outs 116 111 0 0 0);
    (r7.1, r7.2))
  else if x = 8 then (let r8 := (s_Mo_writeLetters f_out v_outs 98 121 0 0 0);
    (r8.1, r8.2))
  else if x = 9 then (let r9 := (s_Mo_writeLetters f_out v_outs 102 114 111 109 0);
    (r9.1, r9.2))
  else if x = 10 then (let r10 := (s_Mo_writeLetters f_out v_outs 110 111 116 0 0);
    (r10.1, r10.2))
  else if x = 11 then (let r11 := (s_Mo_writeLetters f_out v_outs 97 110 100 0 0);
    (r11.1, r11.2))
  else let r12 := (s_Mo_writeLetters f_out v_outs 111 114 0 0 0);
  (r12.1, r12.2)
def ok_Mo_writeWord (f_out : Nat → Int32) (v_outs : Int32) (x : Int32) : Prop :=
  if x = 1 then (let r1 := (s_Mo_writeLetters f_out v_outs 108 101 116 0 0);
    (ok_Mo_writeLetters v_outs 116 0 0) ∧ (True))
  else (if x = 2 then (let r2 := (s_Mo_writeLetters f_out v_outs 99 111 117 110 116);
    (ok_Mo_writeLetters v_outs 117 110 116) ∧ (True))
  else (if x = 3 then (let r3 := (s_Mo_writeLetters f_out v_outs 115 117 109 0 0);
    (ok_Mo_writeLetters v_outs 109 0 0) ∧ (True))
  else (if x = 4 then (let r4 := (s_Mo_writeLetters f_out v_outs 98 105 110 115 0);
    (ok_Mo_writeLetters v_outs 110 115 0) ∧ (True))
  else (if x = 5 then (let r5 := (s_Mo_writeLetters f_out v_outs 119 104 101 114 101);
    (ok_Mo_writeLetters v_outs 101 114 101) ∧ (True))
  else (if x = 6 then (let r6 := (s_Mo_writeLetters f_out v_outs 105 110 0 0 0);
    (ok_Mo_writeLetters v_outs 0 0 0) ∧ (True))
  else (if x = 7 then (let r7 := (s_Mo_writeLetters f_out v_outs 116 111 0 0 0);
    (ok_Mo_writeLetters v_outs 0 0 0) ∧ (True))
  else (if x = 8 then (let r8 := (s_Mo_writeLetters f_out v_outs 98 121 0 0 0);
    (ok_Mo_writeLetters v_outs 0 0 0) ∧ (True))
  else (if x = 9 then (let r9 := (s_Mo_writeLetters f_out v_outs 102 114 111 109 0);
    (ok_Mo_writeLetters v_outs 111 109 0) ∧ (True))
  else (if x = 10 then (let r10 := (s_Mo_writeLetters f_out v_outs 110 111 116 0 0);
    (ok_Mo_writeLetters v_outs 116 0 0) ∧ (True))
  else (if x = 11 then (let r11 := (s_Mo_writeLetters f_out v_outs 97 110 100 0 0);
    (ok_Mo_writeLetters v_outs 100 0 0) ∧ (True))
  else (let r12 := (s_Mo_writeLetters f_out v_outs 111 114 0 0 0);
  (ok_Mo_writeLetters v_outs 0 0 0) ∧ (True))))))))))))
def s_Mo_writeSign (f_out : Nat → Int32) (v_outs : Int32) (x : Int32) : Int32 × (Nat → Int32) :=
  if x = 20 then (let r1 := (s_Mo_writeLetters f_out v_outs 60 61 0 0 0);
    (r1.1, r1.2))
  else if x = 21 then (let r2 := (s_Mo_writeLetters f_out v_outs 62 61 0 0 0);
    (r2.1, r2.2))
  else if x = 22 then (let r3 := (s_Mo_writeLetters f_out v_outs 60 62 0 0 0);
    (r3.1, r3.2))
  else if x = 16 then (v_outs + 1, upd f_out v_outs.toNatClampNeg 59)
  else if x = 17 then (v_outs + 1, upd f_out v_outs.toNatClampNeg 61)
  else if x = 18 then (v_outs + 1, upd f_out v_outs.toNatClampNeg 60)
  else if x = 19 then (v_outs + 1, upd f_out v_outs.toNatClampNeg 62)
  else if x = 23 then (v_outs + 1, upd f_out v_outs.toNatClampNeg 43)
  else if x = 24 then (v_outs + 1, upd f_out v_outs.toNatClampNeg 45)
  else if x = 25 then (v_outs + 1, upd f_out v_outs.toNatClampNeg 42)
  else if x = 26 then (v_outs + 1, upd f_out v_outs.toNatClampNeg 40)
  else if x = 27 then (v_outs + 1, upd f_out v_outs.toNatClampNeg 41)
  else if x = 28 then (v_outs + 1, upd f_out v_outs.toNatClampNeg 91)
  else (v_outs + 1, upd f_out v_outs.toNatClampNeg 93)
def ok_Mo_writeSign (f_out : Nat → Int32) (v_outs : Int32) (x : Int32) : Prop :=
  if x = 20 then (let r1 := (s_Mo_writeLetters f_out v_outs 60 61 0 0 0);
    (ok_Mo_writeLetters v_outs 0 0 0) ∧ (True))
  else (if x = 21 then (let r2 := (s_Mo_writeLetters f_out v_outs 62 61 0 0 0);
    (ok_Mo_writeLetters v_outs 0 0 0) ∧ (True))
  else (if x = 22 then (let r3 := (s_Mo_writeLetters f_out v_outs 60 62 0 0 0);
    (ok_Mo_writeLetters v_outs 0 0 0) ∧ (True))
  else (if x = 16 then ((up v_outs 4199) ∧ (True))
  else (if x = 17 then ((up v_outs 4199) ∧ (True))
  else (if x = 18 then ((up v_outs 4199) ∧ (True))
  else (if x = 19 then ((up v_outs 4199) ∧ (True))
  else (if x = 23 then ((up v_outs 4199) ∧ (True))
  else (if x = 24 then ((up v_outs 4199) ∧ (True))
  else (if x = 25 then ((up v_outs 4199) ∧ (True))
  else (if x = 26 then ((up v_outs 4199) ∧ (True))
  else (if x = 27 then ((up v_outs 4199) ∧ (True))
  else (if x = 28 then ((up v_outs 4199) ∧ (True))
  else ((up v_outs 4199) ∧ (True))))))))))))))
def s_Mo_writeToken (f_scriptKinds : Nat → Int32) (f_scriptValues : Nat → Int32) (f_out : Nat → Int32) (v_outs : Int32) (x : Int32) : Int32 × (Nat → Int32) :=
  if 12 < (f_scriptKinds x.toNatClampNeg) then (if (f_scriptKinds x.toNatClampNeg) = 13 then (v_outs + 1, upd f_out v_outs.toNatClampNeg (97 + (f_scriptValues x.toNatClampNeg)))
    else if (f_scriptKinds x.toNatClampNeg) = 14 then (v_outs + 1, upd f_out v_outs.toNatClampNeg (97 + (f_scriptValues x.toNatClampNeg)))
    else if (f_scriptKinds x.toNatClampNeg) = 15 then let r2 := (s_Mo_writeNumber f_out v_outs (f_scriptValues x.toNatClampNeg));
      (r2.1, r2.2)
    else let r1 := (s_Mo_writeSign f_out v_outs (f_scriptKinds x.toNatClampNeg));
    (r1.1, r1.2))
  else let r3 := (s_Mo_writeWord f_out v_outs (f_scriptKinds x.toNatClampNeg));
  (r3.1, r3.2)
def ok_Mo_writeToken (f_scriptKinds : Nat → Int32) (f_scriptValues : Nat → Int32) (f_out : Nat → Int32) (v_outs : Int32) (x : Int32) : Prop :=
  (vp_in x 2000) ∧ (if 12 < (f_scriptKinds x.toNatClampNeg) then (if (f_scriptKinds x.toNatClampNeg) = 13 then ((vp_in x 2000) ∧ ((up v_outs 4199) ∧ (True)))
    else (if (f_scriptKinds x.toNatClampNeg) = 14 then ((vp_in x 2000) ∧ ((up v_outs 4199) ∧ (True)))
    else (if (f_scriptKinds x.toNatClampNeg) = 15 then ((vp_in x 2000) ∧ (let r2 := (s_Mo_writeNumber f_out v_outs (f_scriptValues x.toNatClampNeg));
      (ok_Mo_writeNumber f_out v_outs (f_scriptValues x.toNatClampNeg)) ∧ (True)))
    else (let r1 := (s_Mo_writeSign f_out v_outs (f_scriptKinds x.toNatClampNeg));
    (ok_Mo_writeSign f_out v_outs (f_scriptKinds x.toNatClampNeg)) ∧ (True)))))
  else (let r3 := (s_Mo_writeWord f_out v_outs (f_scriptKinds x.toNatClampNeg));
  (ok_Mo_writeWord f_out v_outs (f_scriptKinds x.toNatClampNeg)) ∧ (True)))
def lp_Mo_print_17 (f_scriptKinds : Nat → Int32) (f_scriptValues : Nat → Int32) (v_scriptTokens : Int32) : Nat → Int32 → (Nat → Int32) → Int32 → Int32 × Int32 × (Nat → Int32)
  | 0, _, _, _ => (0, 0, (fun _ => 0))
  | n + 1, i1, g_a_out, w56_h =>
    if v_scriptTokens ≤ i1 then (w56_h, w56_h, g_a_out)
    else if (f_scriptKinds i1.toNatClampNeg) = 8 then if (f_scriptValues (i1 + 1).toNatClampNeg) = 1 then (lp_Mo_print_17 f_scriptKinds f_scriptValues v_scriptTokens n (i1 + 2) g_a_out w56_h)
      else if i1 ≤ 0 then (let r3 := (s_Mo_writeToken f_scriptKinds f_scriptValues g_a_out w56_h i1);
        (lp_Mo_print_17 f_scriptKinds f_scriptValues v_scriptTokens n (i1 + 1) r3.2 r3.1))
      else let r4 := (s_Mo_writeToken f_scriptKinds f_scriptValues (upd g_a_out w56_h.toNatClampNeg 32) (w56_h + 1) i1);
      (lp_Mo_print_17 f_scriptKinds f_scriptValues v_scriptTokens n (i1 + 1) r4.2 r4.1)
    else if i1 ≤ 0 then (let r1 := (s_Mo_writeToken f_scriptKinds f_scriptValues g_a_out w56_h i1);
      (lp_Mo_print_17 f_scriptKinds f_scriptValues v_scriptTokens n (i1 + 1) r1.2 r1.1))
    else let r2 := (s_Mo_writeToken f_scriptKinds f_scriptValues (upd g_a_out w56_h.toNatClampNeg 32) (w56_h + 1) i1);
    (lp_Mo_print_17 f_scriptKinds f_scriptValues v_scriptTokens n (i1 + 1) r2.2 r2.1)
def oklp_Mo_print_17 (f_scriptKinds : Nat → Int32) (f_scriptValues : Nat → Int32) (v_scriptTokens : Int32) : Nat → Int32 → (Nat → Int32) → Int32 → Prop
  | 0, _, _, _ => False
  | n + 1, i1, g_a_out, w56_h =>
    if v_scriptTokens ≤ i1 then (True)
    else ((vp_in i1 2000) ∧ (if (f_scriptKinds i1.toNatClampNeg) = 8 then ((vp_in (i1 + 1) 2000) ∧ (if (f_scriptValues (i1 + 1).toNatClampNeg) = 1 then ((oklp_Mo_print_17 f_scriptKinds f_scriptValues v_scriptTokens n (i1 + 2) g_a_out w56_h))
      else (if i1 ≤ 0 then (let r3 := (s_Mo_writeToken f_scriptKinds f_scriptValues g_a_out w56_h i1);
        (ok_Mo_writeToken f_scriptKinds f_scriptValues g_a_out w56_h i1) ∧ ((oklp_Mo_print_17 f_scriptKinds f_scriptValues v_scriptTokens n (i1 + 1) r3.2 r3.1)))
      else ((up w56_h 4199) ∧ (let r4 := (s_Mo_writeToken f_scriptKinds f_scriptValues (upd g_a_out w56_h.toNatClampNeg 32) (w56_h + 1) i1);
      (ok_Mo_writeToken f_scriptKinds f_scriptValues (upd g_a_out w56_h.toNatClampNeg 32) (w56_h + 1) i1) ∧ ((oklp_Mo_print_17 f_scriptKinds f_scriptValues v_scriptTokens n (i1 + 1) r4.2 r4.1)))))))
    else (if i1 ≤ 0 then (let r1 := (s_Mo_writeToken f_scriptKinds f_scriptValues g_a_out w56_h i1);
      (ok_Mo_writeToken f_scriptKinds f_scriptValues g_a_out w56_h i1) ∧ ((oklp_Mo_print_17 f_scriptKinds f_scriptValues v_scriptTokens n (i1 + 1) r1.2 r1.1)))
    else ((up w56_h 4199) ∧ (let r2 := (s_Mo_writeToken f_scriptKinds f_scriptValues (upd g_a_out w56_h.toNatClampNeg 32) (w56_h + 1) i1);
    (ok_Mo_writeToken f_scriptKinds f_scriptValues (upd g_a_out w56_h.toNatClampNeg 32) (w56_h + 1) i1) ∧ ((oklp_Mo_print_17 f_scriptKinds f_scriptValues v_scriptTokens n (i1 + 1) r2.2 r2.1)))))))
def s_Mo_print (f_scriptKinds : Nat → Int32) (f_scriptValues : Nat → Int32) (v_scriptTokens : Int32) (v_hasScript : Int32) (f_out : Nat → Int32) (v_outs : Int32) : Int32 × Int32 × (Nat → Int32) :=
  if v_hasScript = 0 then ((-103), v_outs, f_out)
  else (lp_Mo_print_17 f_scriptKinds f_scriptValues v_scriptTokens 2001 (0 : Int32) f_out (0 : Int32))
def ok_Mo_print (f_scriptKinds : Nat → Int32) (f_scriptValues : Nat → Int32) (v_scriptTokens : Int32) (v_hasScript : Int32) (f_out : Nat → Int32) : Prop :=
  if v_hasScript = 0 then (True)
  else ((oklp_Mo_print_17 f_scriptKinds f_scriptValues v_scriptTokens 2001 (0 : Int32) f_out (0 : Int32)))
def s_Mo_shareInto (v_p : Int32) (v_q : Int32) (nuf : Nat → Int32) (x : Int32) (z : Int32) (v : Int32) : (Nat → Int32) :=
  let r1 := (lp_Mo_begin_2 (((240 - (0 : Int32).toInt).toNat) + 1) (0 : Int32) nuf);
  if z ≤ x then (if v = 0 then (let r9 := (lp_Mo_grow_3 (v_p + v_q) 1 ((((1 : Int32).toInt - (0 : Int32).toInt).toNat) + 1) (0 : Int32) r1);
      r9)
    else if z = 0 then (let r2 := (lp_Mo_grow_3 v_p (x - z) ((((x - z).toInt - (0 : Int32).toInt).toNat) + 1) (0 : Int32) r1);
      let r3 := (lp_Mo_grow_3 v_q ((v + 1) - (x - z)) (((((v + 1) - (x - z)).toInt - (0 : Int32).toInt).toNat) + 1) (0 : Int32) r2);
      r3)
    else if z = v then (let r7 := (lp_Mo_grow_3 v_p (x - z) ((((x - z).toInt - (0 : Int32).toInt).toNat) + 1) (0 : Int32) r1);
      let r8 := (lp_Mo_grow_3 v_q ((v + 1) - (x - z)) (((((v + 1) - (x - z)).toInt - (0 : Int32).toInt).toNat) + 1) (0 : Int32) r7);
      r8)
    else let r4 := (lp_Mo_grow_3 (v_q - v_p) 1 ((((1 : Int32).toInt - (0 : Int32).toInt).toNat) + 1) (0 : Int32) r1);
    let r5 := (lp_Mo_grow_3 v_p (x - z) ((((x - z).toInt - (0 : Int32).toInt).toNat) + 1) (0 : Int32) r4);
    let r6 := (lp_Mo_grow_3 v_q (v - (x - z)) ((((v - (x - z)).toInt - (0 : Int32).toInt).toNat) + 1) (0 : Int32) r5);
    r6)
  else if v = 0 then (let r17 := (lp_Mo_grow_3 (v_p + v_q) 1 ((((1 : Int32).toInt - (0 : Int32).toInt).toNat) + 1) (0 : Int32) r1);
    r17)
  else if z = 0 then (let r10 := (lp_Mo_grow_3 v_p (z - x) ((((z - x).toInt - (0 : Int32).toInt).toNat) + 1) (0 : Int32) r1);
    let r11 := (lp_Mo_grow_3 v_q ((v + 1) - (z - x)) (((((v + 1) - (z - x)).toInt - (0 : Int32).toInt).toNat) + 1) (0 : Int32) r10);
    r11)
  else if z = v then (let r15 := (lp_Mo_grow_3 v_p (z - x) ((((z - x).toInt - (0 : Int32).toInt).toNat) + 1) (0 : Int32) r1);
    let r16 := (lp_Mo_grow_3 v_q ((v + 1) - (z - x)) (((((v + 1) - (z - x)).toInt - (0 : Int32).toInt).toNat) + 1) (0 : Int32) r15);
    r16)
  else let r12 := (lp_Mo_grow_3 (v_q - v_p) 1 ((((1 : Int32).toInt - (0 : Int32).toInt).toNat) + 1) (0 : Int32) r1);
  let r13 := (lp_Mo_grow_3 v_p (z - x) ((((z - x).toInt - (0 : Int32).toInt).toNat) + 1) (0 : Int32) r12);
  let r14 := (lp_Mo_grow_3 v_q (v - (z - x)) ((((v - (z - x)).toInt - (0 : Int32).toInt).toNat) + 1) (0 : Int32) r13);
  r14
def lp_Mo_share_52  : Nat → Int32 → Int32 → (Nat → Int32) → Int32
  | 0, i4, _, _ => i4
  | n + 1, i4, w56_h, g_a_one =>
    if i4 ≤ 0 then i4
    else if (g_a_one i4.toNatClampNeg) = 0 then (lp_Mo_share_52 n (i4 + (-1)) w56_h g_a_one)
    else i4
def oklp_Mo_share_52  : Nat → Int32 → Int32 → (Nat → Int32) → Prop
  | 0, _, _, _ => False
  | n + 1, i4, w56_h, g_a_one =>
    if i4 ≤ 0 then (True)
    else ((vp_in i4 240) ∧ (if (g_a_one i4.toNatClampNeg) = 0 then ((oklp_Mo_share_52 n (i4 + (-1)) w56_h g_a_one))
    else (True)))
def lp_Mo_share_77  : Nat → Int32 → Int32 → (Nat → Int32) → Int32 → (Nat → Int32) → Int32 × Int32 × (Nat → Int32) × (Nat → Int32)
  | 0, _, _, _, _, _ => (0, 0, (fun _ => 0), (fun _ => 0))
  | n + 1, u4, u5, g_a_out, w56_h, g_a_one =>
    if u5 < 0 then (w56_h, w56_h, g_a_out, g_a_one)
    else (lp_Mo_share_77 n u4 (u5 + (-1)) (upd g_a_out w56_h.toNatClampNeg (48 + (g_a_one u5.toNatClampNeg))) (w56_h + 1) g_a_one)
def oklp_Mo_share_77  : Nat → Int32 → Int32 → (Nat → Int32) → Int32 → (Nat → Int32) → Prop
  | 0, _, _, _, _, _ => False
  | n + 1, u4, u5, g_a_out, w56_h, g_a_one =>
    if u5 < 0 then (True)
    else ((vp_in u5 240) ∧ ((up w56_h 4199) ∧ ((oklp_Mo_share_77 n u4 (u5 + (-1)) (upd g_a_out w56_h.toNatClampNeg (48 + (g_a_one u5.toNatClampNeg))) (w56_h + 1) g_a_one))))
def s_Mo_share (v_p : Int32) (v_q : Int32) (f_out : Nat → Int32) (v_outs : Int32) (f_one : Nat → Int32) (x : Int32) (z : Int32) (v : Int32) : Int32 × Int32 × (Nat → Int32) × (Nat → Int32) :=
  let r1 := (s_Mo_in v 0 30);
  if r1 = 0 then ((-102), v_outs, f_out, f_one)
  else let r2 := (s_Mo_in x 0 v);
  if r2 = 0 then ((-102), v_outs, f_out, f_one)
  else let r3 := (s_Mo_in z 0 v);
  if r3 = 0 then ((-102), v_outs, f_out, f_one)
  else let r4 := (s_Mo_shareInto v_p v_q f_one x z v);
  let r5 := (lp_Mo_share_52 241 (239 : Int32) (0 : Int32) r4);
  (lp_Mo_share_77 241 r5 r5 f_out (0 : Int32) r4)
def ok_Mo_share (v_p : Int32) (v_q : Int32) (f_out : Nat → Int32) (f_one : Nat → Int32) (x : Int32) (z : Int32) (v : Int32) : Prop :=
  let r1 := (s_Mo_in v 0 30);
  if r1 = 0 then (True)
  else (let r2 := (s_Mo_in x 0 v);
  if r2 = 0 then (True)
  else (let r3 := (s_Mo_in z 0 v);
  if r3 = 0 then (True)
  else (let r4 := (s_Mo_shareInto v_p v_q f_one x z v);
  ((oklp_Mo_share_52 241 (239 : Int32) (0 : Int32) r4)) ∧ (let r5 := (lp_Mo_share_52 241 (239 : Int32) (0 : Int32) r4);
  (oklp_Mo_share_77 241 r5 r5 f_out (0 : Int32) r4)))))
def s_Mo_isNear (v_p : Int32) (v_q : Int32) (f_one : Nat → Int32) (f_two : Nat → Int32) (x1 : Int32) (x2 : Int32) (x3 : Int32) (x4 : Int32) : Int32 × (Nat → Int32) × (Nat → Int32) :=
  if x2 ≤ x1 then (let r1 := (s_Mo_shareInto v_p v_q f_one x1 x3 x4);
    let r2 := (lp_Mo_grow_3 v_p (x1 - x2) ((((x1 - x2).toInt - (0 : Int32).toInt).toNat) + 1) (0 : Int32) r1);
    let r3 := (s_Mo_shareInto v_p v_q f_two x2 x3 x4);
    let r4 := (lp_Mo_grow_3 v_q (x1 - x2) ((((x1 - x2).toInt - (0 : Int32).toInt).toNat) + 1) (0 : Int32) r3);
    let r5 := (lp_Mo_isAtMost r2 r4 (((239 : Int32).toInt.toNat) + 1) (239 : Int32));
    (r5, r2, r4))
  else let r6 := (s_Mo_shareInto v_p v_q f_one x1 x3 x4);
  let r7 := (lp_Mo_grow_3 v_p (x2 - x1) ((((x2 - x1).toInt - (0 : Int32).toInt).toNat) + 1) (0 : Int32) r6);
  let r8 := (s_Mo_shareInto v_p v_q f_two x2 x3 x4);
  let r9 := (lp_Mo_grow_3 v_q (x2 - x1) ((((x2 - x1).toInt - (0 : Int32).toInt).toNat) + 1) (0 : Int32) r8);
  let r10 := (lp_Mo_isAtMost r7 r9 (((239 : Int32).toInt.toNat) + 1) (239 : Int32));
  (r10, r7, r9)
def lp_Mo_within_36 (v_p : Int32) (v_q : Int32) (x : Int32) (z : Int32) (v : Int32) : Nat → Int32 → Int32 → (Nat → Int32) → (Nat → Int32) → Int32 × (Nat → Int32) × (Nat → Int32)
  | 0, _, _, _, _ => (0, (fun _ => 0), (fun _ => 0))
  | n + 1, i4, i5, g_a_one, g_a_two =>
    if v < i5 then (i4, g_a_one, g_a_two)
    else if i4 = 0 then (lp_Mo_within_36 v_p v_q x z v n (0 : Int32) (i5 + 1) g_a_one g_a_two)
    else let r1 := (s_Mo_isNear v_p v_q g_a_one g_a_two x z i5 v);
    if r1.1 = 0 then (lp_Mo_within_36 v_p v_q x z v n (0 : Int32) (i5 + 1) r1.2.1 r1.2.2)
    else let r2 := (s_Mo_isNear v_p v_q r1.2.1 r1.2.2 z x i5 v);
    if r2.1 = 0 then (lp_Mo_within_36 v_p v_q x z v n (0 : Int32) (i5 + 1) r2.2.1 r2.2.2)
    else (lp_Mo_within_36 v_p v_q x z v n (1 : Int32) (i5 + 1) r2.2.1 r2.2.2)
def oklp_Mo_within_36 (v_p : Int32) (v_q : Int32) (x : Int32) (z : Int32) (v : Int32) : Nat → Int32 → Int32 → (Nat → Int32) → (Nat → Int32) → Prop
  | 0, _, _, _, _ => False
  | n + 1, i4, i5, g_a_one, g_a_two =>
    if v < i5 then ((isB i4) ∧ (True))
    else (if i4 = 0 then ((oklp_Mo_within_36 v_p v_q x z v n (0 : Int32) (i5 + 1) g_a_one g_a_two))
    else (let r1 := (s_Mo_isNear v_p v_q g_a_one g_a_two x z i5 v);
    if r1.1 = 0 then ((oklp_Mo_within_36 v_p v_q x z v n (0 : Int32) (i5 + 1) r1.2.1 r1.2.2))
    else (let r2 := (s_Mo_isNear v_p v_q r1.2.1 r1.2.2 z x i5 v);
    if r2.1 = 0 then ((oklp_Mo_within_36 v_p v_q x z v n (0 : Int32) (i5 + 1) r2.2.1 r2.2.2))
    else ((oklp_Mo_within_36 v_p v_q x z v n (1 : Int32) (i5 + 1) r2.2.1 r2.2.2)))))
def s_Mo_within (v_p : Int32) (v_q : Int32) (f_one : Nat → Int32) (f_two : Nat → Int32) (x : Int32) (z : Int32) (v : Int32) : Int32 × (Nat → Int32) × (Nat → Int32) :=
  let r1 := (s_Mo_in v 0 30);
  if r1 = 0 then (0, f_one, f_two)
  else let r2 := (s_Mo_in x 0 v);
  if r2 = 0 then (0, f_one, f_two)
  else let r3 := (s_Mo_in z 0 v);
  if r3 = 0 then (0, f_one, f_two)
  else (lp_Mo_within_36 v_p v_q x z v 32 (1 : Int32) (0 : Int32) f_one f_two)
def ok_Mo_within (v_p : Int32) (v_q : Int32) (f_one : Nat → Int32) (f_two : Nat → Int32) (x : Int32) (z : Int32) (v : Int32) : Prop :=
  let r1 := (s_Mo_in v 0 30);
  if r1 = 0 then (True)
  else (let r2 := (s_Mo_in x 0 v);
  if r2 = 0 then (True)
  else (let r3 := (s_Mo_in z 0 v);
  if r3 = 0 then (True)
  else ((oklp_Mo_within_36 v_p v_q x z v 32 (1 : Int32) (0 : Int32) f_one f_two))))
def lp_Mo_type_77 (x : Int64) : Nat → Int32 → Int32 → (Nat → Int32) → Int32 × Int32 × (Nat → Int32)
  | 0, _, _, _ => (0, 0, (fun _ => 0))
  | n + 1, u4, c9_h, g_a_text =>
    if u4 < 0 then (c9_h, c9_h, g_a_text)
    else (lp_Mo_type_77 x n (u4 + (-1)) (c9_h + 1) (upd g_a_text c9_h.toNatClampNeg ((((x.toUInt64 >>> ((8 * u4).toInt64.toUInt64 &&& Int64.toUInt64 63)).toInt64) &&& 255).toInt32)))
def oklp_Mo_type_77 (x : Int64) : Nat → Int32 → Int32 → (Nat → Int32) → Prop
  | 0, _, _, _ => False
  | n + 1, u4, c9_h, g_a_text =>
    if u4 < 0 then (True)
    else ((vp_in c9_h 2000) ∧ ((oklp_Mo_type_77 x n (u4 + (-1)) (c9_h + 1) (upd g_a_text c9_h.toNatClampNeg ((((x.toUInt64 >>> ((8 * u4).toInt64.toUInt64 &&& Int64.toUInt64 63)).toInt64) &&& 255).toInt32)))))
def lp_Mo_type_16 (f_text : Nat → Int32) (v_signs : Int32) (x : Int64) (z : Int32) : Nat → Int32 → Int32 × Int32 × (Nat → Int32)
  | 0, _ => (0, 0, (fun _ => 0))
  | n + 1, i4 =>
    if z ≤ i4 then (if (v_signs + z) ≤ 2000 then (lp_Mo_type_77 x 10 (z - 1) v_signs f_text)
      else ((-106), v_signs, f_text))
    else let r1 := (s_Mo_in ((((x.toUInt64 >>> ((8 * i4).toInt64.toUInt64 &&& Int64.toUInt64 63)).toInt64) &&& 255).toInt32) 32 126);
    if r1 = 0 then ((-102), v_signs, f_text)
    else (lp_Mo_type_16 f_text v_signs x z n (i4 + 1))
def oklp_Mo_type_16 (f_text : Nat → Int32) (v_signs : Int32) (x : Int64) (z : Int32) : Nat → Int32 → Prop
  | 0, _ => False
  | n + 1, i4 =>
    if z ≤ i4 then (if (v_signs + z) ≤ 2000 then ((oklp_Mo_type_77 x 10 (z - 1) v_signs f_text))
      else (True))
    else (let r1 := (s_Mo_in ((((x.toUInt64 >>> ((8 * i4).toInt64.toUInt64 &&& Int64.toUInt64 63)).toInt64) &&& 255).toInt32) 32 126);
    if r1 = 0 then (True)
    else ((oklp_Mo_type_16 f_text v_signs x z n (i4 + 1))))
def s_Mo_type (f_text : Nat → Int32) (v_signs : Int32) (x : Int64) (z : Int32) : Int32 × Int32 × (Nat → Int32) :=
  let r1 := (s_Mo_in z 1 8);
  if r1 = 0 then ((-102), v_signs, f_text)
  else (lp_Mo_type_16 f_text v_signs x z 10 (0 : Int32))
def ok_Mo_type (f_text : Nat → Int32) (v_signs : Int32) (x : Int64) (z : Int32) : Prop :=
  let r1 := (s_Mo_in z 1 8);
  if r1 = 0 then (True)
  else ((oklp_Mo_type_16 f_text v_signs x z 10 (0 : Int32)))
def lp_Mo_work_6 (f_table : Nat → Int32) (f_scriptCode : Nat → Int32) (f_letValue : Nat → Int32) (z : Int32) (row : Int32) : Nat → Int32 → Int32 → (Nat → Int32) → Int32 × (Nat → Int32)
  | 0, _, _, _ => (0, (fun _ => 0))
  | n + 1, i4, i5, g_a_pile =>
    if z ≤ i5 then (g_a_pile (0 : Int32).toNatClampNeg, g_a_pile)
    else if (f_scriptCode i5.toNatClampNeg) = 15 then (if (f_scriptCode i5.toNatClampNeg) = 15 then (lp_Mo_work_6 f_table f_scriptCode f_letValue z row n (i4 + 1) (i5 + 2) (upd g_a_pile i4.toNatClampNeg (f_scriptCode (i5 + 1).toNatClampNeg)))
      else if (f_scriptCode i5.toNatClampNeg) = 13 then (lp_Mo_work_6 f_table f_scriptCode f_letValue z row n (i4 + 1) (i5 + 2) (upd g_a_pile i4.toNatClampNeg (f_table ((6 * row) + (f_scriptCode (i5 + 1).toNatClampNeg)).toNatClampNeg)))
      else (lp_Mo_work_6 f_table f_scriptCode f_letValue z row n (i4 + 1) (i5 + 2) (upd g_a_pile i4.toNatClampNeg (f_letValue (f_scriptCode (i5 + 1).toNatClampNeg).toNatClampNeg))))
    else if (f_scriptCode i5.toNatClampNeg) = 13 then (if (f_scriptCode i5.toNatClampNeg) = 15 then (lp_Mo_work_6 f_table f_scriptCode f_letValue z row n (i4 + 1) (i5 + 2) (upd g_a_pile i4.toNatClampNeg (f_scriptCode (i5 + 1).toNatClampNeg)))
      else if (f_scriptCode i5.toNatClampNeg) = 13 then (lp_Mo_work_6 f_table f_scriptCode f_letValue z row n (i4 + 1) (i5 + 2) (upd g_a_pile i4.toNatClampNeg (f_table ((6 * row) + (f_scriptCode (i5 + 1).toNatClampNeg)).toNatClampNeg)))
      else (lp_Mo_work_6 f_table f_scriptCode f_letValue z row n (i4 + 1) (i5 + 2) (upd g_a_pile i4.toNatClampNeg (f_letValue (f_scriptCode (i5 + 1).toNatClampNeg).toNatClampNeg))))
    else if (f_scriptCode i5.toNatClampNeg) = 40 then (if (f_scriptCode i5.toNatClampNeg) = 15 then (lp_Mo_work_6 f_table f_scriptCode f_letValue z row n (i4 + 1) (i5 + 2) (upd g_a_pile i4.toNatClampNeg (f_scriptCode (i5 + 1).toNatClampNeg)))
      else if (f_scriptCode i5.toNatClampNeg) = 13 then (lp_Mo_work_6 f_table f_scriptCode f_letValue z row n (i4 + 1) (i5 + 2) (upd g_a_pile i4.toNatClampNeg (f_table ((6 * row) + (f_scriptCode (i5 + 1).toNatClampNeg)).toNatClampNeg)))
      else (lp_Mo_work_6 f_table f_scriptCode f_letValue z row n (i4 + 1) (i5 + 2) (upd g_a_pile i4.toNatClampNeg (f_letValue (f_scriptCode (i5 + 1).toNatClampNeg).toNatClampNeg))))
    else if (f_scriptCode i5.toNatClampNeg) = 10 then (if (f_scriptCode i5.toNatClampNeg) = 10 then (lp_Mo_work_6 f_table f_scriptCode f_letValue z row n i4 (i5 + 2) (upd g_a_pile (i4 - 1).toNatClampNeg (1 - (g_a_pile (i4 - 1).toNatClampNeg))))
      else (lp_Mo_work_6 f_table f_scriptCode f_letValue z row n i4 (i5 + 2) (upd g_a_pile (i4 - 1).toNatClampNeg (-(g_a_pile (i4 - 1).toNatClampNeg)))))
    else if (f_scriptCode i5.toNatClampNeg) = 41 then (if (f_scriptCode i5.toNatClampNeg) = 10 then (lp_Mo_work_6 f_table f_scriptCode f_letValue z row n i4 (i5 + 2) (upd g_a_pile (i4 - 1).toNatClampNeg (1 - (g_a_pile (i4 - 1).toNatClampNeg))))
      else (lp_Mo_work_6 f_table f_scriptCode f_letValue z row n i4 (i5 + 2) (upd g_a_pile (i4 - 1).toNatClampNeg (-(g_a_pile (i4 - 1).toNatClampNeg)))))
    else if (f_scriptCode i5.toNatClampNeg) = 23 then (lp_Mo_work_6 f_table f_scriptCode f_letValue z row n (i4 + (-1)) (i5 + 2) (upd g_a_pile ((i4 + (-1)) - 1).toNatClampNeg ((g_a_pile (i4 - 2).toNatClampNeg) + (g_a_pile (i4 - 1).toNatClampNeg))))
    else if (f_scriptCode i5.toNatClampNeg) = 24 then (lp_Mo_work_6 f_table f_scriptCode f_letValue z row n (i4 + (-1)) (i5 + 2) (upd g_a_pile ((i4 + (-1)) - 1).toNatClampNeg ((g_a_pile (i4 - 2).toNatClampNeg) - (g_a_pile (i4 - 1).toNatClampNeg))))
    else if (f_scriptCode i5.toNatClampNeg) = 25 then (lp_Mo_work_6 f_table f_scriptCode f_letValue z row n (i4 + (-1)) (i5 + 2) (upd g_a_pile ((i4 + (-1)) - 1).toNatClampNeg ((g_a_pile (i4 - 2).toNatClampNeg) * (g_a_pile (i4 - 1).toNatClampNeg))))
    else if (f_scriptCode i5.toNatClampNeg) = 11 then (lp_Mo_work_6 f_table f_scriptCode f_letValue z row n (i4 + (-1)) (i5 + 2) (upd g_a_pile ((i4 + (-1)) - 1).toNatClampNeg ((g_a_pile (i4 - 2).toNatClampNeg) &&& (g_a_pile (i4 - 1).toNatClampNeg))))
    else if (f_scriptCode i5.toNatClampNeg) = 12 then (lp_Mo_work_6 f_table f_scriptCode f_letValue z row n (i4 + (-1)) (i5 + 2) (upd g_a_pile ((i4 + (-1)) - 1).toNatClampNeg ((g_a_pile (i4 - 2).toNatClampNeg) ||| (g_a_pile (i4 - 1).toNatClampNeg))))
    else let r1 := (s_Mo_judge (f_scriptCode i5.toNatClampNeg) (g_a_pile (i4 - 2).toNatClampNeg) (g_a_pile (i4 - 1).toNatClampNeg));
    (lp_Mo_work_6 f_table f_scriptCode f_letValue z row n (i4 + (-1)) (i5 + 2) (upd g_a_pile ((i4 + (-1)) - 1).toNatClampNeg r1))
def oklp_Mo_work_6 (f_table : Nat → Int32) (f_scriptCode : Nat → Int32) (f_letValue : Nat → Int32) (z : Int32) (row : Int32) : Nat → Int32 → Int32 → (Nat → Int32) → Prop
  | 0, _, _, _ => False
  | n + 1, i4, i5, g_a_pile =>
    if z ≤ i5 then (True)
    else ((vp_in i5 4000) ∧ ((vp_in (i5 + 1) 4000) ∧ (if (f_scriptCode i5.toNatClampNeg) = 15 then (if (f_scriptCode i5.toNatClampNeg) = 15 then ((vp_in i4 400) ∧ ((oklp_Mo_work_6 f_table f_scriptCode f_letValue z row n (i4 + 1) (i5 + 2) (upd g_a_pile i4.toNatClampNeg (f_scriptCode (i5 + 1).toNatClampNeg)))))
      else (if (f_scriptCode i5.toNatClampNeg) = 13 then ((vp_in ((6 * row) + (f_scriptCode (i5 + 1).toNatClampNeg)) 366) ∧ ((vp_in i4 400) ∧ ((oklp_Mo_work_6 f_table f_scriptCode f_letValue z row n (i4 + 1) (i5 + 2) (upd g_a_pile i4.toNatClampNeg (f_table ((6 * row) + (f_scriptCode (i5 + 1).toNatClampNeg)).toNatClampNeg))))))
      else ((vp_in (f_scriptCode (i5 + 1).toNatClampNeg) 10) ∧ ((vp_in i4 400) ∧ ((oklp_Mo_work_6 f_table f_scriptCode f_letValue z row n (i4 + 1) (i5 + 2) (upd g_a_pile i4.toNatClampNeg (f_letValue (f_scriptCode (i5 + 1).toNatClampNeg).toNatClampNeg))))))))
    else (if (f_scriptCode i5.toNatClampNeg) = 13 then (if (f_scriptCode i5.toNatClampNeg) = 15 then ((vp_in i4 400) ∧ ((oklp_Mo_work_6 f_table f_scriptCode f_letValue z row n (i4 + 1) (i5 + 2) (upd g_a_pile i4.toNatClampNeg (f_scriptCode (i5 + 1).toNatClampNeg)))))
      else (if (f_scriptCode i5.toNatClampNeg) = 13 then ((vp_in ((6 * row) + (f_scriptCode (i5 + 1).toNatClampNeg)) 366) ∧ ((vp_in i4 400) ∧ ((oklp_Mo_work_6 f_table f_scriptCode f_letValue z row n (i4 + 1) (i5 + 2) (upd g_a_pile i4.toNatClampNeg (f_table ((6 * row) + (f_scriptCode (i5 + 1).toNatClampNeg)).toNatClampNeg))))))
      else ((vp_in (f_scriptCode (i5 + 1).toNatClampNeg) 10) ∧ ((vp_in i4 400) ∧ ((oklp_Mo_work_6 f_table f_scriptCode f_letValue z row n (i4 + 1) (i5 + 2) (upd g_a_pile i4.toNatClampNeg (f_letValue (f_scriptCode (i5 + 1).toNatClampNeg).toNatClampNeg))))))))
    else (if (f_scriptCode i5.toNatClampNeg) = 40 then (if (f_scriptCode i5.toNatClampNeg) = 15 then ((vp_in i4 400) ∧ ((oklp_Mo_work_6 f_table f_scriptCode f_letValue z row n (i4 + 1) (i5 + 2) (upd g_a_pile i4.toNatClampNeg (f_scriptCode (i5 + 1).toNatClampNeg)))))
      else (if (f_scriptCode i5.toNatClampNeg) = 13 then ((vp_in ((6 * row) + (f_scriptCode (i5 + 1).toNatClampNeg)) 366) ∧ ((vp_in i4 400) ∧ ((oklp_Mo_work_6 f_table f_scriptCode f_letValue z row n (i4 + 1) (i5 + 2) (upd g_a_pile i4.toNatClampNeg (f_table ((6 * row) + (f_scriptCode (i5 + 1).toNatClampNeg)).toNatClampNeg))))))
      else ((vp_in (f_scriptCode (i5 + 1).toNatClampNeg) 10) ∧ ((vp_in i4 400) ∧ ((oklp_Mo_work_6 f_table f_scriptCode f_letValue z row n (i4 + 1) (i5 + 2) (upd g_a_pile i4.toNatClampNeg (f_letValue (f_scriptCode (i5 + 1).toNatClampNeg).toNatClampNeg))))))))
    else (if (f_scriptCode i5.toNatClampNeg) = 10 then (if (f_scriptCode i5.toNatClampNeg) = 10 then ((vp_in (i4 - 1) 400) ∧ ((vp_in (i4 - 1) 400) ∧ ((oklp_Mo_work_6 f_table f_scriptCode f_letValue z row n i4 (i5 + 2) (upd g_a_pile (i4 - 1).toNatClampNeg (1 - (g_a_pile (i4 - 1).toNatClampNeg)))))))
      else ((vp_in (i4 - 1) 400) ∧ ((vp_in (i4 - 1) 400) ∧ ((oklp_Mo_work_6 f_table f_scriptCode f_letValue z row n i4 (i5 + 2) (upd g_a_pile (i4 - 1).toNatClampNeg (-(g_a_pile (i4 - 1).toNatClampNeg))))))))
    else (if (f_scriptCode i5.toNatClampNeg) = 41 then (if (f_scriptCode i5.toNatClampNeg) = 10 then ((vp_in (i4 - 1) 400) ∧ ((vp_in (i4 - 1) 400) ∧ ((oklp_Mo_work_6 f_table f_scriptCode f_letValue z row n i4 (i5 + 2) (upd g_a_pile (i4 - 1).toNatClampNeg (1 - (g_a_pile (i4 - 1).toNatClampNeg)))))))
      else ((vp_in (i4 - 1) 400) ∧ ((vp_in (i4 - 1) 400) ∧ ((oklp_Mo_work_6 f_table f_scriptCode f_letValue z row n i4 (i5 + 2) (upd g_a_pile (i4 - 1).toNatClampNeg (-(g_a_pile (i4 - 1).toNatClampNeg))))))))
    else ((vp_in (i4 - 2) 400) ∧ ((vp_in (i4 - 1) 400) ∧ (if (f_scriptCode i5.toNatClampNeg) = 23 then ((vp_in ((i4 + (-1)) - 1) 400) ∧ ((oklp_Mo_work_6 f_table f_scriptCode f_letValue z row n (i4 + (-1)) (i5 + 2) (upd g_a_pile ((i4 + (-1)) - 1).toNatClampNeg ((g_a_pile (i4 - 2).toNatClampNeg) + (g_a_pile (i4 - 1).toNatClampNeg))))))
    else (if (f_scriptCode i5.toNatClampNeg) = 24 then ((vp_in ((i4 + (-1)) - 1) 400) ∧ ((oklp_Mo_work_6 f_table f_scriptCode f_letValue z row n (i4 + (-1)) (i5 + 2) (upd g_a_pile ((i4 + (-1)) - 1).toNatClampNeg ((g_a_pile (i4 - 2).toNatClampNeg) - (g_a_pile (i4 - 1).toNatClampNeg))))))
    else (if (f_scriptCode i5.toNatClampNeg) = 25 then ((vp_in ((i4 + (-1)) - 1) 400) ∧ ((oklp_Mo_work_6 f_table f_scriptCode f_letValue z row n (i4 + (-1)) (i5 + 2) (upd g_a_pile ((i4 + (-1)) - 1).toNatClampNeg ((g_a_pile (i4 - 2).toNatClampNeg) * (g_a_pile (i4 - 1).toNatClampNeg))))))
    else (if (f_scriptCode i5.toNatClampNeg) = 11 then ((vp_in ((i4 + (-1)) - 1) 400) ∧ ((oklp_Mo_work_6 f_table f_scriptCode f_letValue z row n (i4 + (-1)) (i5 + 2) (upd g_a_pile ((i4 + (-1)) - 1).toNatClampNeg ((g_a_pile (i4 - 2).toNatClampNeg) &&& (g_a_pile (i4 - 1).toNatClampNeg))))))
    else (if (f_scriptCode i5.toNatClampNeg) = 12 then ((vp_in ((i4 + (-1)) - 1) 400) ∧ ((oklp_Mo_work_6 f_table f_scriptCode f_letValue z row n (i4 + (-1)) (i5 + 2) (upd g_a_pile ((i4 + (-1)) - 1).toNatClampNeg ((g_a_pile (i4 - 2).toNatClampNeg) ||| (g_a_pile (i4 - 1).toNatClampNeg))))))
    else (let r1 := (s_Mo_judge (f_scriptCode i5.toNatClampNeg) (g_a_pile (i4 - 2).toNatClampNeg) (g_a_pile (i4 - 1).toNatClampNeg));
    (vp_in ((i4 + (-1)) - 1) 400) ∧ ((oklp_Mo_work_6 f_table f_scriptCode f_letValue z row n (i4 + (-1)) (i5 + 2) (upd g_a_pile ((i4 + (-1)) - 1).toNatClampNeg r1))))))))))))))))))
def ok_Mo_work (f_table : Nat → Int32) (f_scriptCode : Nat → Int32) (f_pile : Nat → Int32) (f_letValue : Nat → Int32) (x : Int32) (z : Int32) (row : Int32) : Prop :=
  (oklp_Mo_work_6 f_table f_scriptCode f_letValue z row 2001 (0 : Int32) x f_pile)
def lp_Mo_holds_14 (f_table : Nat → Int32) (v_scriptLets : Int32) (f_scriptCode : Nat → Int32) (f_scriptLetBegin : Nat → Int32) (f_scriptLetEnd : Nat → Int32) (row : Int32) : Nat → Int32 → (Nat → Int32) → (Nat → Int32) → Int32 × (Nat → Int32) × (Nat → Int32)
  | 0, i3, g_a_pile, g_a_letValue => (i3, g_a_pile, g_a_letValue)
  | n + 1, i3, g_a_pile, g_a_letValue =>
    if v_scriptLets ≤ i3 then (i3, g_a_pile, g_a_letValue)
    else let r1 := (lp_Mo_work_6 f_table f_scriptCode g_a_letValue (f_scriptLetEnd i3.toNatClampNeg) row 2001 (0 : Int32) (f_scriptLetBegin i3.toNatClampNeg) g_a_pile);
    (lp_Mo_holds_14 f_table v_scriptLets f_scriptCode f_scriptLetBegin f_scriptLetEnd row n (i3 + 1) r1.2 (upd g_a_letValue i3.toNatClampNeg r1.1))
def oklp_Mo_holds_14 (f_table : Nat → Int32) (v_scriptLets : Int32) (f_scriptCode : Nat → Int32) (f_scriptLetBegin : Nat → Int32) (f_scriptLetEnd : Nat → Int32) (row : Int32) : Nat → Int32 → (Nat → Int32) → (Nat → Int32) → Prop
  | 0, _, _, _ => False
  | n + 1, i3, g_a_pile, g_a_letValue =>
    if v_scriptLets ≤ i3 then (True)
    else ((vp_in i3 10) ∧ ((vp_in i3 10) ∧ (let r1 := (lp_Mo_work_6 f_table f_scriptCode g_a_letValue (f_scriptLetEnd i3.toNatClampNeg) row 2001 (0 : Int32) (f_scriptLetBegin i3.toNatClampNeg) g_a_pile);
    (ok_Mo_work f_table f_scriptCode g_a_pile g_a_letValue (f_scriptLetBegin i3.toNatClampNeg) (f_scriptLetEnd i3.toNatClampNeg) row) ∧ ((vp_in i3 10) ∧ ((oklp_Mo_holds_14 f_table v_scriptLets f_scriptCode f_scriptLetBegin f_scriptLetEnd row n (i3 + 1) r1.2 (upd g_a_letValue i3.toNatClampNeg r1.1)))))))
def s_Mo_holds (f_table : Nat → Int32) (v_scriptLets : Int32) (f_scriptCode : Nat → Int32) (f_scriptLetBegin : Nat → Int32) (f_scriptLetEnd : Nat → Int32) (f_aBegin : Nat → Int32) (f_anEnd : Nat → Int32) (f_pile : Nat → Int32) (f_letValue : Nat → Int32) (x : Int32) (row : Int32) : Int32 × (Nat → Int32) × (Nat → Int32) :=
  if (f_anEnd x.toNatClampNeg) = (-1) then (1, f_pile, f_letValue)
  else let r1 := (lp_Mo_holds_14 f_table v_scriptLets f_scriptCode f_scriptLetBegin f_scriptLetEnd row 11 (0 : Int32) f_pile f_letValue);
  let r2 := (lp_Mo_work_6 f_table f_scriptCode r1.2.2 (f_anEnd x.toNatClampNeg) row 2001 (0 : Int32) (f_aBegin x.toNatClampNeg) r1.2.1);
  if r2.1 = 1 then (1, r2.2, r1.2.2)
  else (0, r2.2, r1.2.2)
def ok_Mo_holds (f_table : Nat → Int32) (v_scriptLets : Int32) (f_scriptCode : Nat → Int32) (f_scriptLetBegin : Nat → Int32) (f_scriptLetEnd : Nat → Int32) (f_aBegin : Nat → Int32) (f_anEnd : Nat → Int32) (f_pile : Nat → Int32) (f_letValue : Nat → Int32) (x : Int32) (row : Int32) : Prop :=
  (vp_in x 12) ∧ (if (f_anEnd x.toNatClampNeg) = (-1) then (True)
  else (((oklp_Mo_holds_14 f_table v_scriptLets f_scriptCode f_scriptLetBegin f_scriptLetEnd row 11 (0 : Int32) f_pile f_letValue)) ∧ (let r1 := (lp_Mo_holds_14 f_table v_scriptLets f_scriptCode f_scriptLetBegin f_scriptLetEnd row 11 (0 : Int32) f_pile f_letValue);
  (vp_in x 12) ∧ ((vp_in x 12) ∧ (let r2 := (lp_Mo_work_6 f_table f_scriptCode r1.2.2 (f_anEnd x.toNatClampNeg) row 2001 (0 : Int32) (f_aBegin x.toNatClampNeg) r1.2.1);
  (ok_Mo_work f_table f_scriptCode r1.2.1 r1.2.2 (f_aBegin x.toNatClampNeg) (f_anEnd x.toNatClampNeg) row) ∧ (if r2.1 = 1 then (True)
  else (True)))))))
def lp_Mo_numberOf_5 (f_table : Nat → Int32) (v_rows : Int32) (v_scriptLets : Int32) (f_scriptCode : Nat → Int32) (f_scriptLetBegin : Nat → Int32) (f_scriptLetEnd : Nat → Int32) (f_aSort : Nat → Int32) (f_aColumn : Nat → Int32) (f_aLow : Nat → Int32) (f_aHigh : Nat → Int32) (f_aBegin : Nat → Int32) (f_anEnd : Nat → Int32) (x : Int32) (z : Int32) : Nat → Int32 → Int32 → (Nat → Int32) → (Nat → Int32) → Int32 × Int32 × (Nat → Int32) × (Nat → Int32)
  | 0, i3, i4, g_a_pile, g_a_letValue => (i3, i4, g_a_pile, g_a_letValue)
  | n + 1, i3, i4, g_a_pile, g_a_letValue =>
    if v_rows ≤ i4 then (i3, i4, g_a_pile, g_a_letValue)
    else let r1 := (s_Mo_holds f_table v_scriptLets f_scriptCode f_scriptLetBegin f_scriptLetEnd f_aBegin f_anEnd g_a_pile g_a_letValue x i4);
    if r1.1 = 0 then (lp_Mo_numberOf_5 f_table v_rows v_scriptLets f_scriptCode f_scriptLetBegin f_scriptLetEnd f_aSort f_aColumn f_aLow f_aHigh f_aBegin f_anEnd x z n i3 (i4 + 1) r1.2.1 r1.2.2)
    else if (f_aSort x.toNatClampNeg) = 0 then (lp_Mo_numberOf_5 f_table v_rows v_scriptLets f_scriptCode f_scriptLetBegin f_scriptLetEnd f_aSort f_aColumn f_aLow f_aHigh f_aBegin f_anEnd x z n (i3 + 1) (i4 + 1) r1.2.1 r1.2.2)
    else if (f_aSort x.toNatClampNeg) = 2 then if (f_table ((6 * i4) + (f_aColumn x.toNatClampNeg)).toNatClampNeg) = ((f_aLow x.toNatClampNeg) + z) then (lp_Mo_numberOf_5 f_table v_rows v_scriptLets f_scriptCode f_scriptLetBegin f_scriptLetEnd f_aSort f_aColumn f_aLow f_aHigh f_aBegin f_anEnd x z n (i3 + 1) (i4 + 1) r1.2.1 r1.2.2)
      else (lp_Mo_numberOf_5 f_table v_rows v_scriptLets f_scriptCode f_scriptLetBegin f_scriptLetEnd f_aSort f_aColumn f_aLow f_aHigh f_aBegin f_anEnd x z n (i3 + 0) (i4 + 1) r1.2.1 r1.2.2)
    else if 0 ≤ (f_table ((6 * i4) + (f_aColumn x.toNatClampNeg)).toNatClampNeg) then if (f_table ((6 * i4) + (f_aColumn x.toNatClampNeg)).toNatClampNeg) ≤ (f_aHigh x.toNatClampNeg) then (lp_Mo_numberOf_5 f_table v_rows v_scriptLets f_scriptCode f_scriptLetBegin f_scriptLetEnd f_aSort f_aColumn f_aLow f_aHigh f_aBegin f_anEnd x z n (i3 + (f_table ((6 * i4) + (f_aColumn x.toNatClampNeg)).toNatClampNeg)) (i4 + 1) r1.2.1 r1.2.2)
      else (lp_Mo_numberOf_5 f_table v_rows v_scriptLets f_scriptCode f_scriptLetBegin f_scriptLetEnd f_aSort f_aColumn f_aLow f_aHigh f_aBegin f_anEnd x z n (i3 + (f_aHigh x.toNatClampNeg)) (i4 + 1) r1.2.1 r1.2.2)
    else (lp_Mo_numberOf_5 f_table v_rows v_scriptLets f_scriptCode f_scriptLetBegin f_scriptLetEnd f_aSort f_aColumn f_aLow f_aHigh f_aBegin f_anEnd x z n (i3 + 0) (i4 + 1) r1.2.1 r1.2.2)
def oklp_Mo_numberOf_5 (f_table : Nat → Int32) (v_rows : Int32) (v_scriptLets : Int32) (f_scriptCode : Nat → Int32) (f_scriptLetBegin : Nat → Int32) (f_scriptLetEnd : Nat → Int32) (f_aSort : Nat → Int32) (f_aColumn : Nat → Int32) (f_aLow : Nat → Int32) (f_aHigh : Nat → Int32) (f_aBegin : Nat → Int32) (f_anEnd : Nat → Int32) (x : Int32) (z : Int32) : Nat → Int32 → Int32 → (Nat → Int32) → (Nat → Int32) → Prop
  | 0, _, _, _, _ => False
  | n + 1, i3, i4, g_a_pile, g_a_letValue =>
    if v_rows ≤ i4 then (True)
    else (let r1 := (s_Mo_holds f_table v_scriptLets f_scriptCode f_scriptLetBegin f_scriptLetEnd f_aBegin f_anEnd g_a_pile g_a_letValue x i4);
    (ok_Mo_holds f_table v_scriptLets f_scriptCode f_scriptLetBegin f_scriptLetEnd f_aBegin f_anEnd g_a_pile g_a_letValue x i4) ∧ (if r1.1 = 0 then ((oklp_Mo_numberOf_5 f_table v_rows v_scriptLets f_scriptCode f_scriptLetBegin f_scriptLetEnd f_aSort f_aColumn f_aLow f_aHigh f_aBegin f_anEnd x z n i3 (i4 + 1) r1.2.1 r1.2.2))
    else ((vp_in x 12) ∧ ((vp_in ((6 * i4) + (f_aColumn x.toNatClampNeg)) 366) ∧ ((vp_in x 12) ∧ (if (f_aSort x.toNatClampNeg) = 0 then ((oklp_Mo_numberOf_5 f_table v_rows v_scriptLets f_scriptCode f_scriptLetBegin f_scriptLetEnd f_aSort f_aColumn f_aLow f_aHigh f_aBegin f_anEnd x z n (i3 + 1) (i4 + 1) r1.2.1 r1.2.2))
    else ((vp_in x 12) ∧ (if (f_aSort x.toNatClampNeg) = 2 then ((vp_in x 12) ∧ (if (f_table ((6 * i4) + (f_aColumn x.toNatClampNeg)).toNatClampNeg) = ((f_aLow x.toNatClampNeg) + z) then ((oklp_Mo_numberOf_5 f_table v_rows v_scriptLets f_scriptCode f_scriptLetBegin f_scriptLetEnd f_aSort f_aColumn f_aLow f_aHigh f_aBegin f_anEnd x z n (i3 + 1) (i4 + 1) r1.2.1 r1.2.2))
      else ((oklp_Mo_numberOf_5 f_table v_rows v_scriptLets f_scriptCode f_scriptLetBegin f_scriptLetEnd f_aSort f_aColumn f_aLow f_aHigh f_aBegin f_anEnd x z n (i3 + 0) (i4 + 1) r1.2.1 r1.2.2))))
    else (if 0 ≤ (f_table ((6 * i4) + (f_aColumn x.toNatClampNeg)).toNatClampNeg) then ((vp_in x 12) ∧ (if (f_table ((6 * i4) + (f_aColumn x.toNatClampNeg)).toNatClampNeg) ≤ (f_aHigh x.toNatClampNeg) then ((oklp_Mo_numberOf_5 f_table v_rows v_scriptLets f_scriptCode f_scriptLetBegin f_scriptLetEnd f_aSort f_aColumn f_aLow f_aHigh f_aBegin f_anEnd x z n (i3 + (f_table ((6 * i4) + (f_aColumn x.toNatClampNeg)).toNatClampNeg)) (i4 + 1) r1.2.1 r1.2.2))
      else ((vp_in x 12) ∧ ((oklp_Mo_numberOf_5 f_table v_rows v_scriptLets f_scriptCode f_scriptLetBegin f_scriptLetEnd f_aSort f_aColumn f_aLow f_aHigh f_aBegin f_anEnd x z n (i3 + (f_aHigh x.toNatClampNeg)) (i4 + 1) r1.2.1 r1.2.2)))))
    else ((oklp_Mo_numberOf_5 f_table v_rows v_scriptLets f_scriptCode f_scriptLetBegin f_scriptLetEnd f_aSort f_aColumn f_aLow f_aHigh f_aBegin f_anEnd x z n (i3 + 0) (i4 + 1) r1.2.1 r1.2.2)))))))))))
def s_Mo_numberOf (f_table : Nat → Int32) (v_rows : Int32) (v_scriptLets : Int32) (f_scriptCode : Nat → Int32) (f_scriptLetBegin : Nat → Int32) (f_scriptLetEnd : Nat → Int32) (f_aSort : Nat → Int32) (f_aColumn : Nat → Int32) (f_aLow : Nat → Int32) (f_aHigh : Nat → Int32) (f_aBy : Nat → Int32) (f_aBegin : Nat → Int32) (f_anEnd : Nat → Int32) (f_pile : Nat → Int32) (f_letValue : Nat → Int32) (x : Int32) (z : Int32) : Int32 × (Nat → Int32) × (Nat → Int32) :=
  let r1 := (lp_Mo_numberOf_5 f_table v_rows v_scriptLets f_scriptCode f_scriptLetBegin f_scriptLetEnd f_aSort f_aColumn f_aLow f_aHigh f_aBegin f_anEnd x z 61 (0 : Int32) (0 : Int32) f_pile f_letValue);
  if (f_aSort x.toNatClampNeg) = 1 then (r1.1 / (f_aBy x.toNatClampNeg), r1.2.2.1, r1.2.2.2)
  else (r1.1, r1.2.2.1, r1.2.2.2)
def ok_Mo_numberOf (f_table : Nat → Int32) (v_rows : Int32) (v_scriptLets : Int32) (f_scriptCode : Nat → Int32) (f_scriptLetBegin : Nat → Int32) (f_scriptLetEnd : Nat → Int32) (f_aSort : Nat → Int32) (f_aColumn : Nat → Int32) (f_aLow : Nat → Int32) (f_aHigh : Nat → Int32) (f_aBy : Nat → Int32) (f_aBegin : Nat → Int32) (f_anEnd : Nat → Int32) (f_pile : Nat → Int32) (f_letValue : Nat → Int32) (x : Int32) (z : Int32) : Prop :=
  ((oklp_Mo_numberOf_5 f_table v_rows v_scriptLets f_scriptCode f_scriptLetBegin f_scriptLetEnd f_aSort f_aColumn f_aLow f_aHigh f_aBegin f_anEnd x z 61 (0 : Int32) (0 : Int32) f_pile f_letValue)) ∧ (let r1 := (lp_Mo_numberOf_5 f_table v_rows v_scriptLets f_scriptCode f_scriptLetBegin f_scriptLetEnd f_aSort f_aColumn f_aLow f_aHigh f_aBegin f_anEnd x z 61 (0 : Int32) (0 : Int32) f_pile f_letValue);
  (vp_in x 12) ∧ (if (f_aSort x.toNatClampNeg) = 1 then ((vp_in x 12) ∧ ((¬ (f_aBy x.toNatClampNeg) = 0) ∧ (True)))
  else (True)))
def lp_Mo_run_125 (v_p : Int32) (v_q : Int32) (f_table : Nat → Int32) (v_rows : Int32) (f_tape : Nat → Int32) (v_scriptLets : Int32) (f_scriptCode : Nat → Int32) (f_scriptLetBegin : Nat → Int32) (f_scriptLetEnd : Nat → Int32) (f_aSort : Nat → Int32) (f_aColumn : Nat → Int32) (f_aLow : Nat → Int32) (f_aHigh : Nat → Int32) (f_aBy : Nat → Int32) (f_aTop : Nat → Int32) (f_aBegin : Nat → Int32) (f_anEnd : Nat → Int32) (i5 : Int32) : Nat → Int32 → Int32 → Int32 → (Nat → Int32) → (Nat → Int32) → (Nat → Int32) → Int32 × Int32 × Int32 × (Nat → Int32) × (Nat → Int32) × (Nat → Int32)
  | 0, i4, i6, c54_h, g_a_told, g_a_pile, g_a_letValue => (i4, i6, c54_h, g_a_told, g_a_pile, g_a_letValue)
  | n + 1, i4, i6, c54_h, g_a_told, g_a_pile, g_a_letValue =>
    let r1 := (s_Mo_numbersOf f_aSort f_aLow f_aHigh i5);
    if r1 ≤ i6 then (i4, i6, c54_h, g_a_told, g_a_pile, g_a_letValue)
    else let r2 := (s_Mo_numberOf f_table v_rows v_scriptLets f_scriptCode f_scriptLetBegin f_scriptLetEnd f_aSort f_aColumn f_aLow f_aHigh f_aBy f_aBegin f_anEnd g_a_pile g_a_letValue i5 i6);
    let r3 := (s_Mo_bring r2.1 (f_aTop i5.toNatClampNeg));
    let r4 := (s_Mo_noiseAt v_p v_q f_tape i4 (f_aTop i5.toNatClampNeg));
    let r5 := (s_Mo_bring (r3 + r4) (f_aTop i5.toNatClampNeg));
    (lp_Mo_run_125 v_p v_q f_table v_rows f_tape v_scriptLets f_scriptCode f_scriptLetBegin f_scriptLetEnd f_aSort f_aColumn f_aLow f_aHigh f_aBy f_aTop f_aBegin f_anEnd i5 n (i4 + ((f_aTop i5.toNatClampNeg) + 1)) (i6 + 1) (c54_h + 1) (upd g_a_told c54_h.toNatClampNeg r5) r2.2.1 r2.2.2)
def oklp_Mo_run_125 (v_p : Int32) (v_q : Int32) (f_table : Nat → Int32) (v_rows : Int32) (f_tape : Nat → Int32) (v_scriptLets : Int32) (f_scriptCode : Nat → Int32) (f_scriptLetBegin : Nat → Int32) (f_scriptLetEnd : Nat → Int32) (f_aSort : Nat → Int32) (f_aColumn : Nat → Int32) (f_aLow : Nat → Int32) (f_aHigh : Nat → Int32) (f_aBy : Nat → Int32) (f_aTop : Nat → Int32) (f_aBegin : Nat → Int32) (f_anEnd : Nat → Int32) (i5 : Int32) : Nat → Int32 → Int32 → Int32 → (Nat → Int32) → (Nat → Int32) → (Nat → Int32) → Prop
  | 0, _, _, _, _, _, _ => False
  | n + 1, i4, i6, c54_h, g_a_told, g_a_pile, g_a_letValue =>
    let r1 := (s_Mo_numbersOf f_aSort f_aLow f_aHigh i5);
    (up i5 11) ∧ (if r1 ≤ i6 then (True)
    else (let r2 := (s_Mo_numberOf f_table v_rows v_scriptLets f_scriptCode f_scriptLetBegin f_scriptLetEnd f_aSort f_aColumn f_aLow f_aHigh f_aBy f_aBegin f_anEnd g_a_pile g_a_letValue i5 i6);
    (ok_Mo_numberOf f_table v_rows v_scriptLets f_scriptCode f_scriptLetBegin f_scriptLetEnd f_aSort f_aColumn f_aLow f_aHigh f_aBy f_aBegin f_anEnd g_a_pile g_a_letValue i5 i6) ∧ ((vp_in i5 12) ∧ (let r3 := (s_Mo_bring r2.1 (f_aTop i5.toNatClampNeg));
    (vp_in i5 12) ∧ (let r4 := (s_Mo_noiseAt v_p v_q f_tape i4 (f_aTop i5.toNatClampNeg));
    (0 ≤ i4.toInt) ∧ ((i4.toInt + (f_aTop i5.toNatClampNeg).toInt + 1 ≤ 3000) ∧ ((0 ≤ (f_aTop i5.toNatClampNeg).toInt) ∧ (((f_aTop i5.toNatClampNeg).toInt ≤ 1000) ∧ ((vp_in i5 12) ∧ (let r5 := (s_Mo_bring (r3 + r4) (f_aTop i5.toNatClampNeg));
    (vp_in c54_h 240) ∧ ((vp_in i5 12) ∧ ((oklp_Mo_run_125 v_p v_q f_table v_rows f_tape v_scriptLets f_scriptCode f_scriptLetBegin f_scriptLetEnd f_aSort f_aColumn f_aLow f_aHigh f_aBy f_aTop f_aBegin f_anEnd i5 n (i4 + ((f_aTop i5.toNatClampNeg) + 1)) (i6 + 1) (c54_h + 1) (upd g_a_told c54_h.toNatClampNeg r5) r2.2.1 r2.2.2)))))))))))))
def lp_Mo_run_113 (v_p : Int32) (v_q : Int32) (f_table : Nat → Int32) (v_rows : Int32) (f_tape : Nat → Int32) (v_scriptLets : Int32) (v_scriptQuestions : Int32) (f_scriptCode : Nat → Int32) (f_scriptLetBegin : Nat → Int32) (f_scriptLetEnd : Nat → Int32) (f_aSort : Nat → Int32) (f_aColumn : Nat → Int32) (f_aLow : Nat → Int32) (f_aHigh : Nat → Int32) (f_aBy : Nat → Int32) (f_aTop : Nat → Int32) (f_aBegin : Nat → Int32) (f_anEnd : Nat → Int32) : Nat → Int32 → Int32 → Int32 → Int32 → (Nat → Int32) → (Nat → Int32) → (Nat → Int32) → Int32 → (Nat → Int32) → Int32 × Int32 × (Nat → Int32) × (Nat → Int32) × (Nat → Int32) × Int32
  | 0, _, _, i4, i5, g_a_told, g_a_pile, g_a_letValue, w54_h, _ => (i4, i5, g_a_told, g_a_pile, g_a_letValue, w54_h)
  | n + 1, u2, u3, i4, i5, g_a_told, g_a_pile, g_a_letValue, w54_h, g_a_spent =>
    if v_scriptQuestions ≤ i5 then (i4, i5, g_a_told, g_a_pile, g_a_letValue, w54_h)
    else let r1 := (lp_Mo_run_125 v_p v_q f_table v_rows f_tape v_scriptLets f_scriptCode f_scriptLetBegin f_scriptLetEnd f_aSort f_aColumn f_aLow f_aHigh f_aBy f_aTop f_aBegin f_anEnd i5 21 i4 (0 : Int32) w54_h g_a_told g_a_pile g_a_letValue);
    (lp_Mo_run_113 v_p v_q f_table v_rows f_tape v_scriptLets v_scriptQuestions f_scriptCode f_scriptLetBegin f_scriptLetEnd f_aSort f_aColumn f_aLow f_aHigh f_aBy f_aTop f_aBegin f_anEnd n u2 u3 r1.1 (i5 + 1) r1.2.2.2.1 r1.2.2.2.2.1 r1.2.2.2.2.2 r1.2.2.1 g_a_spent)
def oklp_Mo_run_113 (v_p : Int32) (v_q : Int32) (f_table : Nat → Int32) (v_rows : Int32) (f_tape : Nat → Int32) (v_scriptLets : Int32) (v_scriptQuestions : Int32) (f_scriptCode : Nat → Int32) (f_scriptLetBegin : Nat → Int32) (f_scriptLetEnd : Nat → Int32) (f_aSort : Nat → Int32) (f_aColumn : Nat → Int32) (f_aLow : Nat → Int32) (f_aHigh : Nat → Int32) (f_aBy : Nat → Int32) (f_aTop : Nat → Int32) (f_aBegin : Nat → Int32) (f_anEnd : Nat → Int32) : Nat → Int32 → Int32 → Int32 → Int32 → (Nat → Int32) → (Nat → Int32) → (Nat → Int32) → Int32 → (Nat → Int32) → Prop
  | 0, _, _, _, _, _, _, _, _, _ => False
  | n + 1, u2, u3, i4, i5, g_a_told, g_a_pile, g_a_letValue, w54_h, g_a_spent =>
    if v_scriptQuestions ≤ i5 then (True)
    else (((oklp_Mo_run_125 v_p v_q f_table v_rows f_tape v_scriptLets f_scriptCode f_scriptLetBegin f_scriptLetEnd f_aSort f_aColumn f_aLow f_aHigh f_aBy f_aTop f_aBegin f_anEnd i5 21 i4 (0 : Int32) w54_h g_a_told g_a_pile g_a_letValue)) ∧ (let r1 := (lp_Mo_run_125 v_p v_q f_table v_rows f_tape v_scriptLets f_scriptCode f_scriptLetBegin f_scriptLetEnd f_aSort f_aColumn f_aLow f_aHigh f_aBy f_aTop f_aBegin f_anEnd i5 21 i4 (0 : Int32) w54_h g_a_told g_a_pile g_a_letValue);
    (oklp_Mo_run_113 v_p v_q f_table v_rows f_tape v_scriptLets v_scriptQuestions f_scriptCode f_scriptLetBegin f_scriptLetEnd f_aSort f_aColumn f_aLow f_aHigh f_aBy f_aTop f_aBegin f_anEnd n u2 u3 r1.1 (i5 + 1) r1.2.2.2.1 r1.2.2.2.2.1 r1.2.2.2.2.2 r1.2.2.1 g_a_spent)))
def lp_Mo_run_226 (v_cells : Int32) : Nat → Int32 → Int32 → Int32 → Int32 → (Nat → Int32) → Int32 → (Nat → Int32) → (Nat → Int32) → (Nat → Int32) → (Nat → Int32) → Int32 × Int32 × Int32 × (Nat → Int32) × (Nat → Int32) × (Nat → Int32) × (Nat → Int32) × (Nat → Int32)
  | 0, _, _, _, _, _, _, _, _, _, _ => (0, 0, 0, (fun _ => 0), (fun _ => 0), (fun _ => 0), (fun _ => 0), (fun _ => 0))
  | n + 1, u2, u3, u4, u5, g_a_tape, w54_h, g_a_spent, g_a_told, g_a_pile, g_a_letValue =>
    if v_cells ≤ u5 then (w54_h, v_cells - u3, w54_h, g_a_tape, g_a_spent, g_a_told, g_a_pile, g_a_letValue)
    else (lp_Mo_run_226 v_cells n u2 u3 u4 (u5 + 1) (upd g_a_tape (u5 - u3).toNatClampNeg (g_a_tape u5.toNatClampNeg)) w54_h g_a_spent g_a_told g_a_pile g_a_letValue)
def oklp_Mo_run_226 (v_cells : Int32) : Nat → Int32 → Int32 → Int32 → Int32 → (Nat → Int32) → Int32 → (Nat → Int32) → (Nat → Int32) → (Nat → Int32) → (Nat → Int32) → Prop
  | 0, _, _, _, _, _, _, _, _, _, _ => False
  | n + 1, u2, u3, u4, u5, g_a_tape, w54_h, g_a_spent, g_a_told, g_a_pile, g_a_letValue =>
    if v_cells ≤ u5 then (True)
    else ((vp_in u5 3000) ∧ ((vp_in (u5 - u3) 3000) ∧ ((oklp_Mo_run_226 v_cells n u2 u3 u4 (u5 + 1) (upd g_a_tape (u5 - u3).toNatClampNeg (g_a_tape u5.toNatClampNeg)) w54_h g_a_spent g_a_told g_a_pile g_a_letValue))))
def s_Mo_run (v_p : Int32) (v_q : Int32) (f_table : Nat → Int32) (v_rows : Int32) (f_tape : Nat → Int32) (v_cells : Int32) (f_budget : Nat → Int32) (f_spent : Nat → Int32) (v_hasScript : Int32) (v_scriptLets : Int32) (v_scriptQuestions : Int32) (f_scriptCode : Nat → Int32) (f_scriptLetBegin : Nat → Int32) (f_scriptLetEnd : Nat → Int32) (f_aSort : Nat → Int32) (f_aColumn : Nat → Int32) (f_aLow : Nat → Int32) (f_aHigh : Nat → Int32) (f_aBy : Nat → Int32) (f_aTop : Nat → Int32) (f_aBegin : Nat → Int32) (f_anEnd : Nat → Int32) (f_told : Nat → Int32) (v_toldCount : Int32) (f_pile : Nat → Int32) (f_letValue : Nat → Int32) (x : Int32) : Int32 × Int32 × Int32 × (Nat → Int32) × (Nat → Int32) × (Nat → Int32) × (Nat → Int32) × (Nat → Int32) :=
  let r1 := (s_Mo_in x 0 3);
  if r1 = 0 then ((-101), v_cells, v_toldCount, f_tape, f_spent, f_told, f_pile, f_letValue)
  else if v_hasScript = 0 then ((-103), v_cells, v_toldCount, f_tape, f_spent, f_told, f_pile, f_letValue)
  else let r2 := (lp_Mo_wanted_4 v_scriptQuestions f_aSort f_aLow f_aHigh f_aBy f_aTop 0 (((v_scriptQuestions.toInt - (0 : Int32).toInt).toNat) + 1) (0 : Int32) (0 : Int32));
  if ((f_budget x.toNatClampNeg) - (f_spent x.toNatClampNeg)) < r2 then ((-104), v_cells, v_toldCount, f_tape, f_spent, f_told, f_pile, f_letValue)
  else if r2 ≤ ((f_budget (4 : Int32).toNatClampNeg) - (f_spent (4 : Int32).toNatClampNeg)) then (let r3 := (lp_Mo_wanted_4 v_scriptQuestions f_aSort f_aLow f_aHigh f_aBy f_aTop 2 (((v_scriptQuestions.toInt - (0 : Int32).toInt).toNat) + 1) (0 : Int32) (0 : Int32));
    if r3 ≤ v_cells then let r4 := (lp_Mo_run_113 v_p v_q f_table v_rows f_tape v_scriptLets v_scriptQuestions f_scriptCode f_scriptLetBegin f_scriptLetEnd f_aSort f_aColumn f_aLow f_aHigh f_aBy f_aTop f_aBegin f_anEnd 13 r2 r3 (0 : Int32) (0 : Int32) f_told f_pile f_letValue (0 : Int32) (upd (upd f_spent x.toNatClampNeg ((f_spent x.toNatClampNeg) + r2)) (4 : Int32).toNatClampNeg (((upd f_spent x.toNatClampNeg ((f_spent x.toNatClampNeg) + r2)) (4 : Int32).toNatClampNeg) + r2)));
      (lp_Mo_run_226 v_cells 3001 r2 r3 r4.1 r3 f_tape r4.2.2.2.2.2 (upd (upd f_spent x.toNatClampNeg ((f_spent x.toNatClampNeg) + r2)) (4 : Int32).toNatClampNeg (((upd f_spent x.toNatClampNeg ((f_spent x.toNatClampNeg) + r2)) (4 : Int32).toNatClampNeg) + r2)) r4.2.2.1 r4.2.2.2.1 r4.2.2.2.2.1)
    else ((-105), v_cells, v_toldCount, f_tape, f_spent, f_told, f_pile, f_letValue))
  else ((-104), v_cells, v_toldCount, f_tape, f_spent, f_told, f_pile, f_letValue)
def ok_Mo_run (v_p : Int32) (v_q : Int32) (f_table : Nat → Int32) (v_rows : Int32) (f_tape : Nat → Int32) (v_cells : Int32) (f_budget : Nat → Int32) (f_spent : Nat → Int32) (v_hasScript : Int32) (v_scriptLets : Int32) (v_scriptQuestions : Int32) (f_scriptCode : Nat → Int32) (f_scriptLetBegin : Nat → Int32) (f_scriptLetEnd : Nat → Int32) (f_aSort : Nat → Int32) (f_aColumn : Nat → Int32) (f_aLow : Nat → Int32) (f_aHigh : Nat → Int32) (f_aBy : Nat → Int32) (f_aTop : Nat → Int32) (f_aBegin : Nat → Int32) (f_anEnd : Nat → Int32) (f_told : Nat → Int32) (f_pile : Nat → Int32) (f_letValue : Nat → Int32) (x : Int32) : Prop :=
  let r1 := (s_Mo_in x 0 3);
  if r1 = 0 then (True)
  else (if v_hasScript = 0 then (True)
  else (let r2 := (lp_Mo_wanted_4 v_scriptQuestions f_aSort f_aLow f_aHigh f_aBy f_aTop 0 (((v_scriptQuestions.toInt - (0 : Int32).toInt).toNat) + 1) (0 : Int32) (0 : Int32));
  (up v_scriptQuestions 12) ∧ ((BYP f_aBy v_scriptQuestions) ∧ ((vp_in x 5) ∧ ((vp_in x 5) ∧ (if ((f_budget x.toNatClampNeg) - (f_spent x.toNatClampNeg)) < r2 then (True)
  else (if r2 ≤ ((f_budget (4 : Int32).toNatClampNeg) - (f_spent (4 : Int32).toNatClampNeg)) then (let r3 := (lp_Mo_wanted_4 v_scriptQuestions f_aSort f_aLow f_aHigh f_aBy f_aTop 2 (((v_scriptQuestions.toInt - (0 : Int32).toInt).toNat) + 1) (0 : Int32) (0 : Int32));
    (up v_scriptQuestions 12) ∧ ((BYP f_aBy v_scriptQuestions) ∧ (if r3 ≤ v_cells then ((vp_in x 5) ∧ ((vp_in x 5) ∧ (((oklp_Mo_run_113 v_p v_q f_table v_rows f_tape v_scriptLets v_scriptQuestions f_scriptCode f_scriptLetBegin f_scriptLetEnd f_aSort f_aColumn f_aLow f_aHigh f_aBy f_aTop f_aBegin f_anEnd 13 r2 r3 (0 : Int32) (0 : Int32) f_told f_pile f_letValue (0 : Int32) (upd (upd f_spent x.toNatClampNeg ((f_spent x.toNatClampNeg) + r2)) (4 : Int32).toNatClampNeg (((upd f_spent x.toNatClampNeg ((f_spent x.toNatClampNeg) + r2)) (4 : Int32).toNatClampNeg) + r2)))) ∧ (let r4 := (lp_Mo_run_113 v_p v_q f_table v_rows f_tape v_scriptLets v_scriptQuestions f_scriptCode f_scriptLetBegin f_scriptLetEnd f_aSort f_aColumn f_aLow f_aHigh f_aBy f_aTop f_aBegin f_anEnd 13 r2 r3 (0 : Int32) (0 : Int32) f_told f_pile f_letValue (0 : Int32) (upd (upd f_spent x.toNatClampNeg ((f_spent x.toNatClampNeg) + r2)) (4 : Int32).toNatClampNeg (((upd f_spent x.toNatClampNeg ((f_spent x.toNatClampNeg) + r2)) (4 : Int32).toNatClampNeg) + r2)));
      (oklp_Mo_run_226 v_cells 3001 r2 r3 r4.1 r3 f_tape r4.2.2.2.2.2 (upd (upd f_spent x.toNatClampNeg ((f_spent x.toNatClampNeg) + r2)) (4 : Int32).toNatClampNeg (((upd f_spent x.toNatClampNeg ((f_spent x.toNatClampNeg) + r2)) (4 : Int32).toNatClampNeg) + r2)) r4.2.2.1 r4.2.2.2.1 r4.2.2.2.2.1)))))
    else (True))))
  else (True))))))))
def lp_Mo_readCondition_16 (f_text : Nat → Int32) (v_signs : Int32) (f_isTold : Nat → Int32) (f_letOf : Nat → Int32) : Nat → Int32 → Int32 → Int32 → Int32 → Int32 → Int32 → Int32 → (Nat → Int32) → (Nat → Int32) → (Nat → Int32) → Int32 → Int32 → (Nat → Int32) → (Nat → Int32) → Int32 × Int32 × Int32 × Int32 × Int32 × Int32 × Int32 × Int32 × Int32 × Int32 × (Nat → Int32) × (Nat → Int32) × (Nat → Int32) × (Nat → Int32) × (Nat → Int32)
  | 0, _, _, _, _, _, _, _, _, _, _, _, _, _, _ => (0, 0, 0, 0, 0, 0, 0, 0, 0, 0, (fun _ => 0), (fun _ => 0), (fun _ => 0), (fun _ => 0), (fun _ => 0))
  | n + 1, c12_h, c16_h, c17_h, c18_h, c19_h, c21_h, c28_h, g_a_kinds, g_a_values, g_a_code, w20_h, w59_h, g_a_goals, g_a_withs =>
    if w59_h ≤ 0 then (1, c12_h, c16_h, c17_h, c18_h, c19_h, w20_h, c21_h, c28_h, w59_h, g_a_kinds, g_a_values, g_a_code, g_a_goals, g_a_withs)
    else let r1 := (s_Mo_reach f_text v_signs g_a_kinds g_a_values c12_h c16_h c17_h c18_h c19_h w20_h c21_h f_isTold f_letOf g_a_code c28_h g_a_goals g_a_withs (w59_h - 1) (g_a_goals (w59_h - 1).toNatClampNeg) (g_a_withs (w59_h - 1).toNatClampNeg));
    if r1.1 = 0 then (0, r1.2.1, r1.2.2.1, r1.2.2.2.1, r1.2.2.2.2.1, r1.2.2.2.2.2.1, r1.2.2.2.2.2.2.1, r1.2.2.2.2.2.2.2.1, r1.2.2.2.2.2.2.2.2.1, r1.2.2.2.2.2.2.2.2.2.1, r1.2.2.2.2.2.2.2.2.2.2.1, r1.2.2.2.2.2.2.2.2.2.2.2.1, r1.2.2.2.2.2.2.2.2.2.2.2.2.1, r1.2.2.2.2.2.2.2.2.2.2.2.2.2.1, r1.2.2.2.2.2.2.2.2.2.2.2.2.2.2)
    else (lp_Mo_readCondition_16 f_text v_signs f_isTold f_letOf n r1.2.1 r1.2.2.1 r1.2.2.2.1 r1.2.2.2.2.1 r1.2.2.2.2.2.1 r1.2.2.2.2.2.2.2.1 r1.2.2.2.2.2.2.2.2.1 r1.2.2.2.2.2.2.2.2.2.2.1 r1.2.2.2.2.2.2.2.2.2.2.2.1 r1.2.2.2.2.2.2.2.2.2.2.2.2.1 r1.2.2.2.2.2.2.1 r1.2.2.2.2.2.2.2.2.2.1 r1.2.2.2.2.2.2.2.2.2.2.2.2.2.1 r1.2.2.2.2.2.2.2.2.2.2.2.2.2.2)
def oklp_Mo_readCondition_16 (f_text : Nat → Int32) (v_signs : Int32) (f_isTold : Nat → Int32) (f_letOf : Nat → Int32) : Nat → Int32 → Int32 → Int32 → Int32 → Int32 → Int32 → Int32 → (Nat → Int32) → (Nat → Int32) → (Nat → Int32) → Int32 → Int32 → (Nat → Int32) → (Nat → Int32) → Prop
  | 0, _, _, _, _, _, _, _, _, _, _, _, _, _, _ => False
  | n + 1, c12_h, c16_h, c17_h, c18_h, c19_h, c21_h, c28_h, g_a_kinds, g_a_values, g_a_code, w20_h, w59_h, g_a_goals, g_a_withs =>
    if w59_h ≤ 0 then (True)
    else ((vp_in (w59_h - 1) 1000) ∧ ((vp_in (w59_h - 1) 1000) ∧ (let r1 := (s_Mo_reach f_text v_signs g_a_kinds g_a_values c12_h c16_h c17_h c18_h c19_h w20_h c21_h f_isTold f_letOf g_a_code c28_h g_a_goals g_a_withs (w59_h - 1) (g_a_goals (w59_h - 1).toNatClampNeg) (g_a_withs (w59_h - 1).toNatClampNeg));
    (PI v_signs c16_h c12_h c18_h c19_h) ∧ ((up (w59_h - 1) 996) ∧ ((up c28_h 3998) ∧ (if r1.1 = 0 then (True)
    else ((oklp_Mo_readCondition_16 f_text v_signs f_isTold f_letOf n r1.2.1 r1.2.2.1 r1.2.2.2.1 r1.2.2.2.2.1 r1.2.2.2.2.2.1 r1.2.2.2.2.2.2.2.1 r1.2.2.2.2.2.2.2.2.1 r1.2.2.2.2.2.2.2.2.2.2.1 r1.2.2.2.2.2.2.2.2.2.2.2.1 r1.2.2.2.2.2.2.2.2.2.2.2.2.1 r1.2.2.2.2.2.2.1 r1.2.2.2.2.2.2.2.2.2.1 r1.2.2.2.2.2.2.2.2.2.2.2.2.2.1 r1.2.2.2.2.2.2.2.2.2.2.2.2.2.2))))))))
def s_Mo_readCondition (f_text : Nat → Int32) (v_signs : Int32) (f_kinds : Nat → Int32) (f_values : Nat → Int32) (v_tokens : Int32) (v_at : Int32) (v_place : Int32) (v_kind : Int32) (v_value : Int32) (v_asked : Int32) (f_isTold : Nat → Int32) (f_letOf : Nat → Int32) (f_code : Nat → Int32) (v_size : Int32) (f_goals : Nat → Int32) (f_withs : Nat → Int32) : Int32 × Int32 × Int32 × Int32 × Int32 × Int32 × Int32 × Int32 × Int32 × Int32 × (Nat → Int32) × (Nat → Int32) × (Nat → Int32) × (Nat → Int32) × (Nat → Int32) :=
  (lp_Mo_readCondition_16 f_text v_signs f_isTold f_letOf 100000 v_tokens v_at v_place v_kind v_value v_asked v_size f_kinds f_values f_code (0 : Int32) (0 + 1) (upd f_goals (0 : Int32).toNatClampNeg 1) (upd f_withs (0 : Int32).toNatClampNeg 0))
def ok_Mo_readCondition (f_text : Nat → Int32) (v_signs : Int32) (f_kinds : Nat → Int32) (f_values : Nat → Int32) (v_tokens : Int32) (v_at : Int32) (v_place : Int32) (v_kind : Int32) (v_value : Int32) (v_asked : Int32) (f_isTold : Nat → Int32) (f_letOf : Nat → Int32) (f_code : Nat → Int32) (v_size : Int32) (f_goals : Nat → Int32) (f_withs : Nat → Int32) : Prop :=
  (up 0 999) ∧ ((oklp_Mo_readCondition_16 f_text v_signs f_isTold f_letOf 100000 v_tokens v_at v_place v_kind v_value v_asked v_size f_kinds f_values f_code (0 : Int32) (0 + 1) (upd f_goals (0 : Int32).toNatClampNeg 1) (upd f_withs (0 : Int32).toNatClampNeg 0)))
def s_Mo_readLet (f_text : Nat → Int32) (v_signs : Int32) (f_kinds : Nat → Int32) (f_values : Nat → Int32) (v_tokens : Int32) (v_at : Int32) (v_place : Int32) (v_kind : Int32) (v_value : Int32) (v_depth : Int32) (v_asked : Int32) (v_lets : Int32) (f_isTold : Nat → Int32) (f_letOf : Nat → Int32) (f_code : Nat → Int32) (v_size : Int32) (f_letEnd : Nat → Int32) (f_letBegin : Nat → Int32) (f_goals : Nat → Int32) (f_withs : Nat → Int32) (v_goalCount : Int32) : Int32 × Int32 × Int32 × Int32 × Int32 × Int32 × Int32 × Int32 × Int32 × Int32 × Int32 × (Nat → Int32) × (Nat → Int32) × (Nat → Int32) × (Nat → Int32) × (Nat → Int32) × (Nat → Int32) × (Nat → Int32) × (Nat → Int32) × (Nat → Int32) :=
  if v_lets = 10 then (0, v_tokens, v_at, v_place, v_kind, v_value, v_depth, v_asked, v_lets, v_size, v_goalCount, f_kinds, f_values, f_isTold, f_letOf, f_code, f_letEnd, f_letBegin, f_goals, f_withs)
  else let r1 := (s_Mo_pass f_text v_signs f_kinds f_values v_tokens v_at v_kind v_value);
  if r1.2.2.2.1 = 14 then if (f_isTold r1.2.2.2.2.1.toNatClampNeg) = 0 then (let r2 := (s_Mo_pass f_text v_signs r1.2.2.2.2.2.1 r1.2.2.2.2.2.2 r1.1 r1.2.1 r1.2.2.2.1 r1.2.2.2.2.1);
      let r3 := (s_Mo_passOne f_text v_signs r2.2.2.2.2.2.1 r2.2.2.2.2.2.2 r2.1 r2.2.1 r2.2.2.1 r2.2.2.2.1 r2.2.2.2.2.1 17);
      if r3.1 = 0 then (0, r3.2.1, r3.2.2.1, r3.2.2.2.1, r3.2.2.2.2.1, r3.2.2.2.2.2.1, v_depth, v_asked, v_lets, v_size, v_goalCount, r3.2.2.2.2.2.2.1, r3.2.2.2.2.2.2.2, f_isTold, f_letOf, f_code, f_letEnd, f_letBegin, f_goals, f_withs)
      else let r4 := (s_Mo_readCondition f_text v_signs r3.2.2.2.2.2.2.1 r3.2.2.2.2.2.2.2 r3.2.1 r3.2.2.1 r3.2.2.2.1 r3.2.2.2.2.1 r3.2.2.2.2.2.1 v_asked f_isTold f_letOf f_code v_size f_goals f_withs);
      if r4.1 = 0 then (0, r4.2.1, r4.2.2.1, r4.2.2.2.1, r4.2.2.2.2.1, r4.2.2.2.2.2.1, r4.2.2.2.2.2.2.1, r4.2.2.2.2.2.2.2.1, v_lets, r4.2.2.2.2.2.2.2.2.1, r4.2.2.2.2.2.2.2.2.2.1, r4.2.2.2.2.2.2.2.2.2.2.1, r4.2.2.2.2.2.2.2.2.2.2.2.1, f_isTold, f_letOf, r4.2.2.2.2.2.2.2.2.2.2.2.2.1, f_letEnd, upd f_letBegin v_lets.toNatClampNeg v_size, r4.2.2.2.2.2.2.2.2.2.2.2.2.2.1, r4.2.2.2.2.2.2.2.2.2.2.2.2.2.2)
      else (1, r4.2.1, r4.2.2.1, r4.2.2.2.1, r4.2.2.2.2.1, r4.2.2.2.2.2.1, r4.2.2.2.2.2.2.1, r4.2.2.2.2.2.2.2.1, v_lets + 1, r4.2.2.2.2.2.2.2.2.1, r4.2.2.2.2.2.2.2.2.2.1, r4.2.2.2.2.2.2.2.2.2.2.1, r4.2.2.2.2.2.2.2.2.2.2.2.1, upd f_isTold r1.2.2.2.2.1.toNatClampNeg (vp_nar .boolean 1), upd f_letOf r1.2.2.2.2.1.toNatClampNeg v_lets, r4.2.2.2.2.2.2.2.2.2.2.2.2.1, upd f_letEnd v_lets.toNatClampNeg r4.2.2.2.2.2.2.2.2.1, upd f_letBegin v_lets.toNatClampNeg v_size, r4.2.2.2.2.2.2.2.2.2.2.2.2.2.1, r4.2.2.2.2.2.2.2.2.2.2.2.2.2.2))
    else (0, r1.1, r1.2.1, r1.2.2.1, r1.2.2.2.1, r1.2.2.2.2.1, v_depth, v_asked, v_lets, v_size, v_goalCount, r1.2.2.2.2.2.1, r1.2.2.2.2.2.2, f_isTold, f_letOf, f_code, f_letEnd, f_letBegin, f_goals, f_withs)
  else (0, r1.1, r1.2.1, r1.2.2.1, r1.2.2.2.1, r1.2.2.2.2.1, v_depth, v_asked, v_lets, v_size, v_goalCount, r1.2.2.2.2.2.1, r1.2.2.2.2.2.2, f_isTold, f_letOf, f_code, f_letEnd, f_letBegin, f_goals, f_withs)
def ok_Mo_readLet (f_text : Nat → Int32) (v_signs : Int32) (f_kinds : Nat → Int32) (f_values : Nat → Int32) (v_tokens : Int32) (v_at : Int32) (v_kind : Int32) (v_value : Int32) (v_asked : Int32) (v_lets : Int32) (f_isTold : Nat → Int32) (f_letOf : Nat → Int32) (f_code : Nat → Int32) (v_size : Int32) (f_goals : Nat → Int32) (f_withs : Nat → Int32) : Prop :=
  if v_lets = 10 then (True)
  else (let r1 := (s_Mo_pass f_text v_signs f_kinds f_values v_tokens v_at v_kind v_value);
  (PI v_signs v_at v_tokens v_kind v_value) ∧ ((¬ v_kind = 30) ∧ (if r1.2.2.2.1 = 14 then ((vp_in r1.2.2.2.2.1 26) ∧ (if (f_isTold r1.2.2.2.2.1.toNatClampNeg) = 0 then (let r2 := (s_Mo_pass f_text v_signs r1.2.2.2.2.2.1 r1.2.2.2.2.2.2 r1.1 r1.2.1 r1.2.2.2.1 r1.2.2.2.2.1);
      (¬ r1.2.2.2.1 = 30) ∧ (let r3 := (s_Mo_passOne f_text v_signs r2.2.2.2.2.2.1 r2.2.2.2.2.2.2 r2.1 r2.2.1 r2.2.2.1 r2.2.2.2.1 r2.2.2.2.2.1 17);
      if r3.1 = 0 then (True)
      else ((vp_in v_lets 10) ∧ (let r4 := (s_Mo_readCondition f_text v_signs r3.2.2.2.2.2.2.1 r3.2.2.2.2.2.2.2 r3.2.1 r3.2.2.1 r3.2.2.2.1 r3.2.2.2.2.1 r3.2.2.2.2.2.1 v_asked f_isTold f_letOf f_code v_size f_goals f_withs);
      (ok_Mo_readCondition f_text v_signs r3.2.2.2.2.2.2.1 r3.2.2.2.2.2.2.2 r3.2.1 r3.2.2.1 r3.2.2.2.1 r3.2.2.2.2.1 r3.2.2.2.2.2.1 v_asked f_isTold f_letOf f_code v_size f_goals f_withs) ∧ (if r4.1 = 0 then (True)
      else ((vp_in v_lets 10) ∧ ((vp_in r1.2.2.2.2.1 26) ∧ ((vp_in r1.2.2.2.2.1 26) ∧ (True)))))))))
    else (True)))
  else (True))))
def s_Mo_readWhere (f_text : Nat → Int32) (v_signs : Int32) (f_kinds : Nat → Int32) (f_values : Nat → Int32) (v_tokens : Int32) (v_at : Int32) (v_place : Int32) (v_kind : Int32) (v_value : Int32) (v_depth : Int32) (v_asked : Int32) (f_isTold : Nat → Int32) (f_letOf : Nat → Int32) (f_code : Nat → Int32) (v_size : Int32) (f_top : Nat → Int32) (f_begins : Nat → Int32) (f_ends : Nat → Int32) (f_goals : Nat → Int32) (f_withs : Nat → Int32) (v_goalCount : Int32) (x : Int32) : Int32 × Int32 × Int32 × Int32 × Int32 × Int32 × Int32 × Int32 × Int32 × Int32 × (Nat → Int32) × (Nat → Int32) × (Nat → Int32) × (Nat → Int32) × (Nat → Int32) × (Nat → Int32) × (Nat → Int32) × (Nat → Int32) :=
  if v_kind = 5 then (let r3 := (s_Mo_pass f_text v_signs f_kinds f_values v_tokens v_at v_kind v_value);
    let r4 := (s_Mo_readCondition f_text v_signs r3.2.2.2.2.2.1 r3.2.2.2.2.2.2 r3.1 r3.2.1 r3.2.2.1 r3.2.2.2.1 r3.2.2.2.2.1 v_asked f_isTold f_letOf f_code v_size f_goals f_withs);
    if r4.1 = 0 then (0, r4.2.1, r4.2.2.1, r4.2.2.2.1, r4.2.2.2.2.1, r4.2.2.2.2.2.1, r4.2.2.2.2.2.2.1, r4.2.2.2.2.2.2.2.1, r4.2.2.2.2.2.2.2.2.1, r4.2.2.2.2.2.2.2.2.2.1, r4.2.2.2.2.2.2.2.2.2.2.1, r4.2.2.2.2.2.2.2.2.2.2.2.1, r4.2.2.2.2.2.2.2.2.2.2.2.2.1, f_top, upd f_begins x.toNatClampNeg v_size, upd f_ends x.toNatClampNeg (-1), r4.2.2.2.2.2.2.2.2.2.2.2.2.2.1, r4.2.2.2.2.2.2.2.2.2.2.2.2.2.2)
    else let r5 := (s_Mo_passOne f_text v_signs r4.2.2.2.2.2.2.2.2.2.2.1 r4.2.2.2.2.2.2.2.2.2.2.2.1 r4.2.1 r4.2.2.1 r4.2.2.2.1 r4.2.2.2.2.1 r4.2.2.2.2.2.1 6);
    if r5.1 = 0 then (0, r5.2.1, r5.2.2.1, r5.2.2.2.1, r5.2.2.2.2.1, r5.2.2.2.2.2.1, r4.2.2.2.2.2.2.1, r4.2.2.2.2.2.2.2.1, r4.2.2.2.2.2.2.2.2.1, r4.2.2.2.2.2.2.2.2.2.1, r5.2.2.2.2.2.2.1, r5.2.2.2.2.2.2.2, r4.2.2.2.2.2.2.2.2.2.2.2.2.1, f_top, upd f_begins x.toNatClampNeg v_size, upd (upd f_ends x.toNatClampNeg (-1)) x.toNatClampNeg r4.2.2.2.2.2.2.2.2.1, r4.2.2.2.2.2.2.2.2.2.2.2.2.2.1, r4.2.2.2.2.2.2.2.2.2.2.2.2.2.2)
    else let r6 := (s_Mo_passNumber f_text v_signs r5.2.2.2.2.2.2.1 r5.2.2.2.2.2.2.2 r5.2.1 r5.2.2.1 r5.2.2.2.1 r5.2.2.2.2.1 r5.2.2.2.2.2.1 0 30);
    (r6.1, r6.2.1, r6.2.2.1, r6.2.2.2.1, r6.2.2.2.2.1, r6.2.2.2.2.2.1, r4.2.2.2.2.2.2.1, r4.2.2.2.2.2.2.2.1, r4.2.2.2.2.2.2.2.2.1, r4.2.2.2.2.2.2.2.2.2.1, r6.2.2.2.2.2.2.1, r6.2.2.2.2.2.2.2, r4.2.2.2.2.2.2.2.2.2.2.2.2.1, upd f_top x.toNatClampNeg r5.2.2.2.2.2.1, upd f_begins x.toNatClampNeg v_size, upd (upd f_ends x.toNatClampNeg (-1)) x.toNatClampNeg r4.2.2.2.2.2.2.2.2.1, r4.2.2.2.2.2.2.2.2.2.2.2.2.2.1, r4.2.2.2.2.2.2.2.2.2.2.2.2.2.2))
  else let r1 := (s_Mo_passOne f_text v_signs f_kinds f_values v_tokens v_at v_place v_kind v_value 6);
  if r1.1 = 0 then (0, r1.2.1, r1.2.2.1, r1.2.2.2.1, r1.2.2.2.2.1, r1.2.2.2.2.2.1, v_depth, v_asked, v_size, v_goalCount, r1.2.2.2.2.2.2.1, r1.2.2.2.2.2.2.2, f_code, f_top, upd f_begins x.toNatClampNeg v_size, upd f_ends x.toNatClampNeg (-1), f_goals, f_withs)
  else let r2 := (s_Mo_passNumber f_text v_signs r1.2.2.2.2.2.2.1 r1.2.2.2.2.2.2.2 r1.2.1 r1.2.2.1 r1.2.2.2.1 r1.2.2.2.2.1 r1.2.2.2.2.2.1 0 30);
  (r2.1, r2.2.1, r2.2.2.1, r2.2.2.2.1, r2.2.2.2.2.1, r2.2.2.2.2.2.1, v_depth, v_asked, v_size, v_goalCount, r2.2.2.2.2.2.2.1, r2.2.2.2.2.2.2.2, f_code, upd f_top x.toNatClampNeg r1.2.2.2.2.2.1, upd f_begins x.toNatClampNeg v_size, upd f_ends x.toNatClampNeg (-1), f_goals, f_withs)
def ok_Mo_readWhere (f_text : Nat → Int32) (v_signs : Int32) (f_kinds : Nat → Int32) (f_values : Nat → Int32) (v_tokens : Int32) (v_at : Int32) (v_place : Int32) (v_kind : Int32) (v_value : Int32) (v_asked : Int32) (f_isTold : Nat → Int32) (f_letOf : Nat → Int32) (f_code : Nat → Int32) (v_size : Int32) (f_goals : Nat → Int32) (f_withs : Nat → Int32) (x : Int32) : Prop :=
  (vp_in x 12) ∧ ((vp_in x 12) ∧ (if v_kind = 5 then (let r3 := (s_Mo_pass f_text v_signs f_kinds f_values v_tokens v_at v_kind v_value);
    (PI v_signs v_at v_tokens v_kind v_value) ∧ ((¬ v_kind = 30) ∧ (let r4 := (s_Mo_readCondition f_text v_signs r3.2.2.2.2.2.1 r3.2.2.2.2.2.2 r3.1 r3.2.1 r3.2.2.1 r3.2.2.2.1 r3.2.2.2.2.1 v_asked f_isTold f_letOf f_code v_size f_goals f_withs);
    (ok_Mo_readCondition f_text v_signs r3.2.2.2.2.2.1 r3.2.2.2.2.2.2 r3.1 r3.2.1 r3.2.2.1 r3.2.2.2.1 r3.2.2.2.2.1 v_asked f_isTold f_letOf f_code v_size f_goals f_withs) ∧ (if r4.1 = 0 then (True)
    else ((vp_in x 12) ∧ (let r5 := (s_Mo_passOne f_text v_signs r4.2.2.2.2.2.2.2.2.2.2.1 r4.2.2.2.2.2.2.2.2.2.2.2.1 r4.2.1 r4.2.2.1 r4.2.2.2.1 r4.2.2.2.2.1 r4.2.2.2.2.2.1 6);
    (PI v_signs r4.2.2.1 r4.2.1 r4.2.2.2.2.1 r4.2.2.2.2.2.1) ∧ (if r5.1 = 0 then (True)
    else ((vp_in x 12) ∧ (let r6 := (s_Mo_passNumber f_text v_signs r5.2.2.2.2.2.2.1 r5.2.2.2.2.2.2.2 r5.2.1 r5.2.2.1 r5.2.2.2.1 r5.2.2.2.2.1 r5.2.2.2.2.2.1 0 30);
    True)))))))))
  else (let r1 := (s_Mo_passOne f_text v_signs f_kinds f_values v_tokens v_at v_place v_kind v_value 6);
  (PI v_signs v_at v_tokens v_kind v_value) ∧ (if r1.1 = 0 then (True)
  else ((vp_in x 12) ∧ (let r2 := (s_Mo_passNumber f_text v_signs r1.2.2.2.2.2.2.1 r1.2.2.2.2.2.2.2 r1.2.1 r1.2.2.1 r1.2.2.2.1 r1.2.2.2.2.1 r1.2.2.2.2.2.1 0 30);
  True))))))
def s_Mo_readColumn (f_text : Nat → Int32) (v_signs : Int32) (f_kinds : Nat → Int32) (f_values : Nat → Int32) (v_tokens : Int32) (v_at : Int32) (v_place : Int32) (v_kind : Int32) (v_value : Int32) (f_column : Nat → Int32) (x : Int32) : Int32 × Int32 × Int32 × Int32 × Int32 × Int32 × (Nat → Int32) × (Nat → Int32) × (Nat → Int32) :=
  let r1 := (s_Mo_passOne f_text v_signs f_kinds f_values v_tokens v_at v_place v_kind v_value 13);
  (r1.1, r1.2.1, r1.2.2.1, r1.2.2.2.1, r1.2.2.2.2.1, r1.2.2.2.2.2.1, r1.2.2.2.2.2.2.1, r1.2.2.2.2.2.2.2, upd f_column x.toNatClampNeg v_value)
def ok_Mo_readColumn (f_text : Nat → Int32) (v_signs : Int32) (f_kinds : Nat → Int32) (f_values : Nat → Int32) (v_tokens : Int32) (v_at : Int32) (v_place : Int32) (v_kind : Int32) (v_value : Int32) (x : Int32) : Prop :=
  (vp_in x 12) ∧ (let r1 := (s_Mo_passOne f_text v_signs f_kinds f_values v_tokens v_at v_place v_kind v_value 13);
  (PI v_signs v_at v_tokens v_kind v_value) ∧ (True))
def s_Mo_readSum (f_text : Nat → Int32) (v_signs : Int32) (f_kinds : Nat → Int32) (f_values : Nat → Int32) (v_tokens : Int32) (v_at : Int32) (v_place : Int32) (v_kind : Int32) (v_value : Int32) (v_depth : Int32) (v_asked : Int32) (f_isTold : Nat → Int32) (f_letOf : Nat → Int32) (f_code : Nat → Int32) (v_size : Int32) (f_column : Nat → Int32) (f_high : Nat → Int32) (f_by : Nat → Int32) (f_top : Nat → Int32) (f_begins : Nat → Int32) (f_ends : Nat → Int32) (f_goals : Nat → Int32) (f_withs : Nat → Int32) (v_goalCount : Int32) (x : Int32) : Int32 × Int32 × Int32 × Int32 × Int32 × Int32 × Int32 × Int32 × Int32 × Int32 × (Nat → Int32) × (Nat → Int32) × (Nat → Int32) × (Nat → Int32) × (Nat → Int32) × (Nat → Int32) × (Nat → Int32) × (Nat → Int32) × (Nat → Int32) × (Nat → Int32) × (Nat → Int32) :=
  let r1 := (s_Mo_readColumn f_text v_signs f_kinds f_values v_tokens v_at v_place v_kind v_value f_column x);
  if r1.1 = 0 then (0, r1.2.1, r1.2.2.1, r1.2.2.2.1, r1.2.2.2.2.1, r1.2.2.2.2.2.1, v_depth, v_asked, v_size, v_goalCount, r1.2.2.2.2.2.2.1, r1.2.2.2.2.2.2.2.1, f_code, r1.2.2.2.2.2.2.2.2, f_high, f_by, f_top, f_begins, f_ends, f_goals, f_withs)
  else let r2 := (s_Mo_passOne f_text v_signs r1.2.2.2.2.2.2.1 r1.2.2.2.2.2.2.2.1 r1.2.1 r1.2.2.1 r1.2.2.2.1 r1.2.2.2.2.1 r1.2.2.2.2.2.1 7);
  if r2.1 = 0 then (0, r2.2.1, r2.2.2.1, r2.2.2.2.1, r2.2.2.2.2.1, r2.2.2.2.2.2.1, v_depth, v_asked, v_size, v_goalCount, r2.2.2.2.2.2.2.1, r2.2.2.2.2.2.2.2, f_code, r1.2.2.2.2.2.2.2.2, f_high, f_by, f_top, f_begins, f_ends, f_goals, f_withs)
  else let r3 := (s_Mo_passNumber f_text v_signs r2.2.2.2.2.2.2.1 r2.2.2.2.2.2.2.2 r2.2.1 r2.2.2.1 r2.2.2.2.1 r2.2.2.2.2.1 r2.2.2.2.2.2.1 1 1000);
  if r3.1 = 0 then (0, r3.2.1, r3.2.2.1, r3.2.2.2.1, r3.2.2.2.2.1, r3.2.2.2.2.2.1, v_depth, v_asked, v_size, v_goalCount, r3.2.2.2.2.2.2.1, r3.2.2.2.2.2.2.2, f_code, r1.2.2.2.2.2.2.2.2, upd f_high x.toNatClampNeg r2.2.2.2.2.2.1, f_by, f_top, f_begins, f_ends, f_goals, f_withs)
  else if r3.2.2.2.2.1 = 8 then (let r5 := (s_Mo_pass f_text v_signs r3.2.2.2.2.2.2.1 r3.2.2.2.2.2.2.2 r3.2.1 r3.2.2.1 r3.2.2.2.2.1 r3.2.2.2.2.2.1);
    let r6 := (s_Mo_passNumber f_text v_signs r5.2.2.2.2.2.1 r5.2.2.2.2.2.2 r5.1 r5.2.1 r5.2.2.1 r5.2.2.2.1 r5.2.2.2.2.1 1 1000);
    if r6.1 = 0 then (0, r6.2.1, r6.2.2.1, r6.2.2.2.1, r6.2.2.2.2.1, r6.2.2.2.2.2.1, v_depth, v_asked, v_size, v_goalCount, r6.2.2.2.2.2.2.1, r6.2.2.2.2.2.2.2, f_code, r1.2.2.2.2.2.2.2.2, upd f_high x.toNatClampNeg r2.2.2.2.2.2.1, upd f_by x.toNatClampNeg r5.2.2.2.2.1, f_top, f_begins, f_ends, f_goals, f_withs)
    else let r7 := (s_Mo_readWhere f_text v_signs r6.2.2.2.2.2.2.1 r6.2.2.2.2.2.2.2 r6.2.1 r6.2.2.1 r6.2.2.2.1 r6.2.2.2.2.1 r6.2.2.2.2.2.1 v_depth v_asked f_isTold f_letOf f_code v_size f_top f_begins f_ends f_goals f_withs v_goalCount x);
    (r7.1, r7.2.1, r7.2.2.1, r7.2.2.2.1, r7.2.2.2.2.1, r7.2.2.2.2.2.1, r7.2.2.2.2.2.2.1, r7.2.2.2.2.2.2.2.1, r7.2.2.2.2.2.2.2.2.1, r7.2.2.2.2.2.2.2.2.2.1, r7.2.2.2.2.2.2.2.2.2.2.1, r7.2.2.2.2.2.2.2.2.2.2.2.1, r7.2.2.2.2.2.2.2.2.2.2.2.2.1, r1.2.2.2.2.2.2.2.2, upd f_high x.toNatClampNeg r2.2.2.2.2.2.1, upd f_by x.toNatClampNeg r5.2.2.2.2.1, r7.2.2.2.2.2.2.2.2.2.2.2.2.2.1, r7.2.2.2.2.2.2.2.2.2.2.2.2.2.2.1, r7.2.2.2.2.2.2.2.2.2.2.2.2.2.2.2.1, r7.2.2.2.2.2.2.2.2.2.2.2.2.2.2.2.2.1, r7.2.2.2.2.2.2.2.2.2.2.2.2.2.2.2.2.2))
  else let r4 := (s_Mo_readWhere f_text v_signs r3.2.2.2.2.2.2.1 r3.2.2.2.2.2.2.2 r3.2.1 r3.2.2.1 r3.2.2.2.1 r3.2.2.2.2.1 r3.2.2.2.2.2.1 v_depth v_asked f_isTold f_letOf f_code v_size f_top f_begins f_ends f_goals f_withs v_goalCount x);
  (r4.1, r4.2.1, r4.2.2.1, r4.2.2.2.1, r4.2.2.2.2.1, r4.2.2.2.2.2.1, r4.2.2.2.2.2.2.1, r4.2.2.2.2.2.2.2.1, r4.2.2.2.2.2.2.2.2.1, r4.2.2.2.2.2.2.2.2.2.1, r4.2.2.2.2.2.2.2.2.2.2.1, r4.2.2.2.2.2.2.2.2.2.2.2.1, r4.2.2.2.2.2.2.2.2.2.2.2.2.1, r1.2.2.2.2.2.2.2.2, upd f_high x.toNatClampNeg r2.2.2.2.2.2.1, f_by, r4.2.2.2.2.2.2.2.2.2.2.2.2.2.1, r4.2.2.2.2.2.2.2.2.2.2.2.2.2.2.1, r4.2.2.2.2.2.2.2.2.2.2.2.2.2.2.2.1, r4.2.2.2.2.2.2.2.2.2.2.2.2.2.2.2.2.1, r4.2.2.2.2.2.2.2.2.2.2.2.2.2.2.2.2.2)
def ok_Mo_readSum (f_text : Nat → Int32) (v_signs : Int32) (f_kinds : Nat → Int32) (f_values : Nat → Int32) (v_tokens : Int32) (v_at : Int32) (v_place : Int32) (v_kind : Int32) (v_value : Int32) (v_depth : Int32) (v_asked : Int32) (f_isTold : Nat → Int32) (f_letOf : Nat → Int32) (f_code : Nat → Int32) (v_size : Int32) (f_column : Nat → Int32) (f_top : Nat → Int32) (f_begins : Nat → Int32) (f_ends : Nat → Int32) (f_goals : Nat → Int32) (f_withs : Nat → Int32) (v_goalCount : Int32) (x : Int32) : Prop :=
  let r1 := (s_Mo_readColumn f_text v_signs f_kinds f_values v_tokens v_at v_place v_kind v_value f_column x);
  (ok_Mo_readColumn f_text v_signs f_kinds f_values v_tokens v_at v_place v_kind v_value x) ∧ (if r1.1 = 0 then (True)
  else (let r2 := (s_Mo_passOne f_text v_signs r1.2.2.2.2.2.2.1 r1.2.2.2.2.2.2.2.1 r1.2.1 r1.2.2.1 r1.2.2.2.1 r1.2.2.2.2.1 r1.2.2.2.2.2.1 7);
  (PI v_signs r1.2.2.1 r1.2.1 r1.2.2.2.2.1 r1.2.2.2.2.2.1) ∧ (if r2.1 = 0 then (True)
  else ((vp_in x 12) ∧ (let r3 := (s_Mo_passNumber f_text v_signs r2.2.2.2.2.2.2.1 r2.2.2.2.2.2.2.2 r2.2.1 r2.2.2.1 r2.2.2.2.1 r2.2.2.2.2.1 r2.2.2.2.2.2.1 1 1000);
  if r3.1 = 0 then (True)
  else (if r3.2.2.2.2.1 = 8 then (let r5 := (s_Mo_pass f_text v_signs r3.2.2.2.2.2.2.1 r3.2.2.2.2.2.2.2 r3.2.1 r3.2.2.1 r3.2.2.2.2.1 r3.2.2.2.2.2.1);
    (¬ r3.2.2.2.2.1 = 30) ∧ ((vp_in x 12) ∧ (let r6 := (s_Mo_passNumber f_text v_signs r5.2.2.2.2.2.1 r5.2.2.2.2.2.2 r5.1 r5.2.1 r5.2.2.1 r5.2.2.2.1 r5.2.2.2.2.1 1 1000);
    if r6.1 = 0 then (True)
    else (let r7 := (s_Mo_readWhere f_text v_signs r6.2.2.2.2.2.2.1 r6.2.2.2.2.2.2.2 r6.2.1 r6.2.2.1 r6.2.2.2.1 r6.2.2.2.2.1 r6.2.2.2.2.2.1 v_depth v_asked f_isTold f_letOf f_code v_size f_top f_begins f_ends f_goals f_withs v_goalCount x);
    (ok_Mo_readWhere f_text v_signs r6.2.2.2.2.2.2.1 r6.2.2.2.2.2.2.2 r6.2.1 r6.2.2.1 r6.2.2.2.1 r6.2.2.2.2.1 r6.2.2.2.2.2.1 v_asked f_isTold f_letOf f_code v_size f_goals f_withs x) ∧ (True)))))
  else (let r4 := (s_Mo_readWhere f_text v_signs r3.2.2.2.2.2.2.1 r3.2.2.2.2.2.2.2 r3.2.1 r3.2.2.1 r3.2.2.2.1 r3.2.2.2.2.1 r3.2.2.2.2.2.1 v_depth v_asked f_isTold f_letOf f_code v_size f_top f_begins f_ends f_goals f_withs v_goalCount x);
  (ok_Mo_readWhere f_text v_signs r3.2.2.2.2.2.2.1 r3.2.2.2.2.2.2.2 r3.2.1 r3.2.2.1 r3.2.2.2.1 r3.2.2.2.2.1 r3.2.2.2.2.2.1 v_asked f_isTold f_letOf f_code v_size f_goals f_withs x) ∧ (True))))))))
def s_Mo_readBins (f_text : Nat → Int32) (v_signs : Int32) (f_kinds : Nat → Int32) (f_values : Nat → Int32) (v_tokens : Int32) (v_at : Int32) (v_place : Int32) (v_kind : Int32) (v_value : Int32) (v_depth : Int32) (v_asked : Int32) (f_isTold : Nat → Int32) (f_letOf : Nat → Int32) (f_code : Nat → Int32) (v_size : Int32) (f_column : Nat → Int32) (f_low : Nat → Int32) (f_high : Nat → Int32) (f_top : Nat → Int32) (f_begins : Nat → Int32) (f_ends : Nat → Int32) (f_goals : Nat → Int32) (f_withs : Nat → Int32) (v_goalCount : Int32) (x : Int32) : Int32 × Int32 × Int32 × Int32 × Int32 × Int32 × Int32 × Int32 × Int32 × Int32 × (Nat → Int32) × (Nat → Int32) × (Nat → Int32) × (Nat → Int32) × (Nat → Int32) × (Nat → Int32) × (Nat → Int32) × (Nat → Int32) × (Nat → Int32) × (Nat → Int32) × (Nat → Int32) :=
  let r1 := (s_Mo_readColumn f_text v_signs f_kinds f_values v_tokens v_at v_place v_kind v_value f_column x);
  if r1.1 = 0 then (0, r1.2.1, r1.2.2.1, r1.2.2.2.1, r1.2.2.2.2.1, r1.2.2.2.2.2.1, v_depth, v_asked, v_size, v_goalCount, r1.2.2.2.2.2.2.1, r1.2.2.2.2.2.2.2.1, f_code, r1.2.2.2.2.2.2.2.2, f_low, f_high, f_top, f_begins, f_ends, f_goals, f_withs)
  else let r2 := (s_Mo_passOne f_text v_signs r1.2.2.2.2.2.2.1 r1.2.2.2.2.2.2.2.1 r1.2.1 r1.2.2.1 r1.2.2.2.1 r1.2.2.2.2.1 r1.2.2.2.2.2.1 9);
  if r2.1 = 0 then (0, r2.2.1, r2.2.2.1, r2.2.2.2.1, r2.2.2.2.2.1, r2.2.2.2.2.2.1, v_depth, v_asked, v_size, v_goalCount, r2.2.2.2.2.2.2.1, r2.2.2.2.2.2.2.2, f_code, r1.2.2.2.2.2.2.2.2, f_low, f_high, f_top, f_begins, f_ends, f_goals, f_withs)
  else if r2.2.2.2.2.1 = 24 then (let r10 := (s_Mo_pass f_text v_signs r2.2.2.2.2.2.2.1 r2.2.2.2.2.2.2.2 r2.2.1 r2.2.2.1 r2.2.2.2.2.1 r2.2.2.2.2.2.1);
    let r11 := (s_Mo_passOne f_text v_signs r10.2.2.2.2.2.1 r10.2.2.2.2.2.2 r10.1 r10.2.1 r10.2.2.1 r10.2.2.2.1 r10.2.2.2.2.1 15);
    if r11.1 = 0 then (0, r11.2.1, r11.2.2.1, r11.2.2.2.1, r11.2.2.2.2.1, r11.2.2.2.2.2.1, v_depth, v_asked, v_size, v_goalCount, r11.2.2.2.2.2.2.1, r11.2.2.2.2.2.2.2, f_code, r1.2.2.2.2.2.2.2.2, upd f_low x.toNatClampNeg (-r10.2.2.2.2.1), f_high, f_top, f_begins, f_ends, f_goals, f_withs)
    else let r12 := (s_Mo_passOne f_text v_signs r11.2.2.2.2.2.2.1 r11.2.2.2.2.2.2.2 r11.2.1 r11.2.2.1 r11.2.2.2.1 r11.2.2.2.2.1 r11.2.2.2.2.2.1 7);
    if r12.1 = 0 then (0, r12.2.1, r12.2.2.1, r12.2.2.2.1, r12.2.2.2.2.1, r12.2.2.2.2.2.1, v_depth, v_asked, v_size, v_goalCount, r12.2.2.2.2.2.2.1, r12.2.2.2.2.2.2.2, f_code, r1.2.2.2.2.2.2.2.2, upd f_low x.toNatClampNeg (-r10.2.2.2.2.1), f_high, f_top, f_begins, f_ends, f_goals, f_withs)
    else if r12.2.2.2.2.1 = 24 then (let r15 := (s_Mo_pass f_text v_signs r12.2.2.2.2.2.2.1 r12.2.2.2.2.2.2.2 r12.2.1 r12.2.2.1 r12.2.2.2.2.1 r12.2.2.2.2.2.1);
      if r15.2.2.2.1 = 15 then if ((upd f_high x.toNatClampNeg (-r15.2.2.2.2.1)) x.toNatClampNeg) < ((upd f_low x.toNatClampNeg (-r10.2.2.2.2.1)) x.toNatClampNeg) then (0, r15.1, r15.2.1, r15.2.2.1, r15.2.2.2.1, r15.2.2.2.2.1, v_depth, v_asked, v_size, v_goalCount, r15.2.2.2.2.2.1, r15.2.2.2.2.2.2, f_code, r1.2.2.2.2.2.2.2.2, upd f_low x.toNatClampNeg (-r10.2.2.2.2.1), upd f_high x.toNatClampNeg (-r15.2.2.2.2.1), f_top, f_begins, f_ends, f_goals, f_withs)
        else if (lg_cmp ((((upd f_high x.toNatClampNeg (-r15.2.2.2.2.1)) x.toNatClampNeg).toInt64) - (((upd f_low x.toNatClampNeg (-r10.2.2.2.2.1)) x.toNatClampNeg).toInt64)) 20) < 0 then (let r16 := (s_Mo_pass f_text v_signs r15.2.2.2.2.2.1 r15.2.2.2.2.2.2 r15.1 r15.2.1 r15.2.2.2.1 r15.2.2.2.2.1);
          let r17 := (s_Mo_readWhere f_text v_signs r16.2.2.2.2.2.1 r16.2.2.2.2.2.2 r16.1 r16.2.1 r16.2.2.1 r16.2.2.2.1 r16.2.2.2.2.1 v_depth v_asked f_isTold f_letOf f_code v_size f_top f_begins f_ends f_goals f_withs v_goalCount x);
          if r17.1 = 0 then (0, r17.2.1, r17.2.2.1, r17.2.2.2.1, r17.2.2.2.2.1, r17.2.2.2.2.2.1, r17.2.2.2.2.2.2.1, r17.2.2.2.2.2.2.2.1, r17.2.2.2.2.2.2.2.2.1, r17.2.2.2.2.2.2.2.2.2.1, r17.2.2.2.2.2.2.2.2.2.2.1, r17.2.2.2.2.2.2.2.2.2.2.2.1, r17.2.2.2.2.2.2.2.2.2.2.2.2.1, r1.2.2.2.2.2.2.2.2, upd f_low x.toNatClampNeg (-r10.2.2.2.2.1), upd f_high x.toNatClampNeg (-r15.2.2.2.2.1), r17.2.2.2.2.2.2.2.2.2.2.2.2.2.1, r17.2.2.2.2.2.2.2.2.2.2.2.2.2.2.1, r17.2.2.2.2.2.2.2.2.2.2.2.2.2.2.2.1, r17.2.2.2.2.2.2.2.2.2.2.2.2.2.2.2.2.1, r17.2.2.2.2.2.2.2.2.2.2.2.2.2.2.2.2.2)
          else (1, r17.2.1, r17.2.2.1, r17.2.2.2.1, r17.2.2.2.2.1, r17.2.2.2.2.2.1, r17.2.2.2.2.2.2.1, r17.2.2.2.2.2.2.2.1, r17.2.2.2.2.2.2.2.2.1, r17.2.2.2.2.2.2.2.2.2.1, r17.2.2.2.2.2.2.2.2.2.2.1, r17.2.2.2.2.2.2.2.2.2.2.2.1, r17.2.2.2.2.2.2.2.2.2.2.2.2.1, r1.2.2.2.2.2.2.2.2, upd f_low x.toNatClampNeg (-r10.2.2.2.2.1), upd f_high x.toNatClampNeg (-r15.2.2.2.2.1), r17.2.2.2.2.2.2.2.2.2.2.2.2.2.1, r17.2.2.2.2.2.2.2.2.2.2.2.2.2.2.1, r17.2.2.2.2.2.2.2.2.2.2.2.2.2.2.2.1, r17.2.2.2.2.2.2.2.2.2.2.2.2.2.2.2.2.1, r17.2.2.2.2.2.2.2.2.2.2.2.2.2.2.2.2.2))
        else (0, r15.1, r15.2.1, r15.2.2.1, r15.2.2.2.1, r15.2.2.2.2.1, v_depth, v_asked, v_size, v_goalCount, r15.2.2.2.2.2.1, r15.2.2.2.2.2.2, f_code, r1.2.2.2.2.2.2.2.2, upd f_low x.toNatClampNeg (-r10.2.2.2.2.1), upd f_high x.toNatClampNeg (-r15.2.2.2.2.1), f_top, f_begins, f_ends, f_goals, f_withs)
      else (0, r15.1, r15.2.1, r15.2.2.1, r15.2.2.2.1, r15.2.2.2.2.1, v_depth, v_asked, v_size, v_goalCount, r15.2.2.2.2.2.1, r15.2.2.2.2.2.2, f_code, r1.2.2.2.2.2.2.2.2, upd f_low x.toNatClampNeg (-r10.2.2.2.2.1), upd f_high x.toNatClampNeg (-r15.2.2.2.2.1), f_top, f_begins, f_ends, f_goals, f_withs))
    else if r12.2.2.2.2.1 = 15 then if ((upd f_high x.toNatClampNeg r12.2.2.2.2.2.1) x.toNatClampNeg) < ((upd f_low x.toNatClampNeg (-r10.2.2.2.2.1)) x.toNatClampNeg) then (0, r12.2.1, r12.2.2.1, r12.2.2.2.1, r12.2.2.2.2.1, r12.2.2.2.2.2.1, v_depth, v_asked, v_size, v_goalCount, r12.2.2.2.2.2.2.1, r12.2.2.2.2.2.2.2, f_code, r1.2.2.2.2.2.2.2.2, upd f_low x.toNatClampNeg (-r10.2.2.2.2.1), upd f_high x.toNatClampNeg r12.2.2.2.2.2.1, f_top, f_begins, f_ends, f_goals, f_withs)
      else if (lg_cmp ((((upd f_high x.toNatClampNeg r12.2.2.2.2.2.1) x.toNatClampNeg).toInt64) - (((upd f_low x.toNatClampNeg (-r10.2.2.2.2.1)) x.toNatClampNeg).toInt64)) 20) < 0 then (let r13 := (s_Mo_pass f_text v_signs r12.2.2.2.2.2.2.1 r12.2.2.2.2.2.2.2 r12.2.1 r12.2.2.1 r12.2.2.2.2.1 r12.2.2.2.2.2.1);
        let r14 := (s_Mo_readWhere f_text v_signs r13.2.2.2.2.2.1 r13.2.2.2.2.2.2 r13.1 r13.2.1 r13.2.2.1 r13.2.2.2.1 r13.2.2.2.2.1 v_depth v_asked f_isTold f_letOf f_code v_size f_top f_begins f_ends f_goals f_withs v_goalCount x);
        if r14.1 = 0 then (0, r14.2.1, r14.2.2.1, r14.2.2.2.1, r14.2.2.2.2.1, r14.2.2.2.2.2.1, r14.2.2.2.2.2.2.1, r14.2.2.2.2.2.2.2.1, r14.2.2.2.2.2.2.2.2.1, r14.2.2.2.2.2.2.2.2.2.1, r14.2.2.2.2.2.2.2.2.2.2.1, r14.2.2.2.2.2.2.2.2.2.2.2.1, r14.2.2.2.2.2.2.2.2.2.2.2.2.1, r1.2.2.2.2.2.2.2.2, upd f_low x.toNatClampNeg (-r10.2.2.2.2.1), upd f_high x.toNatClampNeg r12.2.2.2.2.2.1, r14.2.2.2.2.2.2.2.2.2.2.2.2.2.1, r14.2.2.2.2.2.2.2.2.2.2.2.2.2.2.1, r14.2.2.2.2.2.2.2.2.2.2.2.2.2.2.2.1, r14.2.2.2.2.2.2.2.2.2.2.2.2.2.2.2.2.1, r14.2.2.2.2.2.2.2.2.2.2.2.2.2.2.2.2.2)
        else (1, r14.2.1, r14.2.2.1, r14.2.2.2.1, r14.2.2.2.2.1, r14.2.2.2.2.2.1, r14.2.2.2.2.2.2.1, r14.2.2.2.2.2.2.2.1, r14.2.2.2.2.2.2.2.2.1, r14.2.2.2.2.2.2.2.2.2.1, r14.2.2.2.2.2.2.2.2.2.2.1, r14.2.2.2.2.2.2.2.2.2.2.2.1, r14.2.2.2.2.2.2.2.2.2.2.2.2.1, r1.2.2.2.2.2.2.2.2, upd f_low x.toNatClampNeg (-r10.2.2.2.2.1), upd f_high x.toNatClampNeg r12.2.2.2.2.2.1, r14.2.2.2.2.2.2.2.2.2.2.2.2.2.1, r14.2.2.2.2.2.2.2.2.2.2.2.2.2.2.1, r14.2.2.2.2.2.2.2.2.2.2.2.2.2.2.2.1, r14.2.2.2.2.2.2.2.2.2.2.2.2.2.2.2.2.1, r14.2.2.2.2.2.2.2.2.2.2.2.2.2.2.2.2.2))
      else (0, r12.2.1, r12.2.2.1, r12.2.2.2.1, r12.2.2.2.2.1, r12.2.2.2.2.2.1, v_depth, v_asked, v_size, v_goalCount, r12.2.2.2.2.2.2.1, r12.2.2.2.2.2.2.2, f_code, r1.2.2.2.2.2.2.2.2, upd f_low x.toNatClampNeg (-r10.2.2.2.2.1), upd f_high x.toNatClampNeg r12.2.2.2.2.2.1, f_top, f_begins, f_ends, f_goals, f_withs)
    else (0, r12.2.1, r12.2.2.1, r12.2.2.2.1, r12.2.2.2.2.1, r12.2.2.2.2.2.1, v_depth, v_asked, v_size, v_goalCount, r12.2.2.2.2.2.2.1, r12.2.2.2.2.2.2.2, f_code, r1.2.2.2.2.2.2.2.2, upd f_low x.toNatClampNeg (-r10.2.2.2.2.1), upd f_high x.toNatClampNeg r12.2.2.2.2.2.1, f_top, f_begins, f_ends, f_goals, f_withs))
  else let r3 := (s_Mo_passOne f_text v_signs r2.2.2.2.2.2.2.1 r2.2.2.2.2.2.2.2 r2.2.1 r2.2.2.1 r2.2.2.2.1 r2.2.2.2.2.1 r2.2.2.2.2.2.1 15);
  if r3.1 = 0 then (0, r3.2.1, r3.2.2.1, r3.2.2.2.1, r3.2.2.2.2.1, r3.2.2.2.2.2.1, v_depth, v_asked, v_size, v_goalCount, r3.2.2.2.2.2.2.1, r3.2.2.2.2.2.2.2, f_code, r1.2.2.2.2.2.2.2.2, upd f_low x.toNatClampNeg r2.2.2.2.2.2.1, f_high, f_top, f_begins, f_ends, f_goals, f_withs)
  else let r4 := (s_Mo_passOne f_text v_signs r3.2.2.2.2.2.2.1 r3.2.2.2.2.2.2.2 r3.2.1 r3.2.2.1 r3.2.2.2.1 r3.2.2.2.2.1 r3.2.2.2.2.2.1 7);
  if r4.1 = 0 then (0, r4.2.1, r4.2.2.1, r4.2.2.2.1, r4.2.2.2.2.1, r4.2.2.2.2.2.1, v_depth, v_asked, v_size, v_goalCount, r4.2.2.2.2.2.2.1, r4.2.2.2.2.2.2.2, f_code, r1.2.2.2.2.2.2.2.2, upd f_low x.toNatClampNeg r2.2.2.2.2.2.1, f_high, f_top, f_begins, f_ends, f_goals, f_withs)
  else if r4.2.2.2.2.1 = 24 then (let r7 := (s_Mo_pass f_text v_signs r4.2.2.2.2.2.2.1 r4.2.2.2.2.2.2.2 r4.2.1 r4.2.2.1 r4.2.2.2.2.1 r4.2.2.2.2.2.1);
    if r7.2.2.2.1 = 15 then if ((upd f_high x.toNatClampNeg (-r7.2.2.2.2.1)) x.toNatClampNeg) < ((upd f_low x.toNatClampNeg r2.2.2.2.2.2.1) x.toNatClampNeg) then (0, r7.1, r7.2.1, r7.2.2.1, r7.2.2.2.1, r7.2.2.2.2.1, v_depth, v_asked, v_size, v_goalCount, r7.2.2.2.2.2.1, r7.2.2.2.2.2.2, f_code, r1.2.2.2.2.2.2.2.2, upd f_low x.toNatClampNeg r2.2.2.2.2.2.1, upd f_high x.toNatClampNeg (-r7.2.2.2.2.1), f_top, f_begins, f_ends, f_goals, f_withs)
      else if (lg_cmp ((((upd f_high x.toNatClampNeg (-r7.2.2.2.2.1)) x.toNatClampNeg).toInt64) - (((upd f_low x.toNatClampNeg r2.2.2.2.2.2.1) x.toNatClampNeg).toInt64)) 20) < 0 then (let r8 := (s_Mo_pass f_text v_signs r7.2.2.2.2.2.1 r7.2.2.2.2.2.2 r7.1 r7.2.1 r7.2.2.2.1 r7.2.2.2.2.1);
        let r9 := (s_Mo_readWhere f_text v_signs r8.2.2.2.2.2.1 r8.2.2.2.2.2.2 r8.1 r8.2.1 r8.2.2.1 r8.2.2.2.1 r8.2.2.2.2.1 v_depth v_asked f_isTold f_letOf f_code v_size f_top f_begins f_ends f_goals f_withs v_goalCount x);
        if r9.1 = 0 then (0, r9.2.1, r9.2.2.1, r9.2.2.2.1, r9.2.2.2.2.1, r9.2.2.2.2.2.1, r9.2.2.2.2.2.2.1, r9.2.2.2.2.2.2.2.1, r9.2.2.2.2.2.2.2.2.1, r9.2.2.2.2.2.2.2.2.2.1, r9.2.2.2.2.2.2.2.2.2.2.1, r9.2.2.2.2.2.2.2.2.2.2.2.1, r9.2.2.2.2.2.2.2.2.2.2.2.2.1, r1.2.2.2.2.2.2.2.2, upd f_low x.toNatClampNeg r2.2.2.2.2.2.1, upd f_high x.toNatClampNeg (-r7.2.2.2.2.1), r9.2.2.2.2.2.2.2.2.2.2.2.2.2.1, r9.2.2.2.2.2.2.2.2.2.2.2.2.2.2.1, r9.2.2.2.2.2.2.2.2.2.2.2.2.2.2.2.1, r9.2.2.2.2.2.2.2.2.2.2.2.2.2.2.2.2.1, r9.2.2.2.2.2.2.2.2.2.2.2.2.2.2.2.2.2)
        else (1, r9.2.1, r9.2.2.1, r9.2.2.2.1, r9.2.2.2.2.1, r9.2.2.2.2.2.1, r9.2.2.2.2.2.2.1, r9.2.2.2.2.2.2.2.1, r9.2.2.2.2.2.2.2.2.1, r9.2.2.2.2.2.2.2.2.2.1, r9.2.2.2.2.2.2.2.2.2.2.1, r9.2.2.2.2.2.2.2.2.2.2.2.1, r9.2.2.2.2.2.2.2.2.2.2.2.2.1, r1.2.2.2.2.2.2.2.2, upd f_low x.toNatClampNeg r2.2.2.2.2.2.1, upd f_high x.toNatClampNeg (-r7.2.2.2.2.1), r9.2.2.2.2.2.2.2.2.2.2.2.2.2.1, r9.2.2.2.2.2.2.2.2.2.2.2.2.2.2.1, r9.2.2.2.2.2.2.2.2.2.2.2.2.2.2.2.1, r9.2.2.2.2.2.2.2.2.2.2.2.2.2.2.2.2.1, r9.2.2.2.2.2.2.2.2.2.2.2.2.2.2.2.2.2))
      else (0, r7.1, r7.2.1, r7.2.2.1, r7.2.2.2.1, r7.2.2.2.2.1, v_depth, v_asked, v_size, v_goalCount, r7.2.2.2.2.2.1, r7.2.2.2.2.2.2, f_code, r1.2.2.2.2.2.2.2.2, upd f_low x.toNatClampNeg r2.2.2.2.2.2.1, upd f_high x.toNatClampNeg (-r7.2.2.2.2.1), f_top, f_begins, f_ends, f_goals, f_withs)
    else (0, r7.1, r7.2.1, r7.2.2.1, r7.2.2.2.1, r7.2.2.2.2.1, v_depth, v_asked, v_size, v_goalCount, r7.2.2.2.2.2.1, r7.2.2.2.2.2.2, f_code, r1.2.2.2.2.2.2.2.2, upd f_low x.toNatClampNeg r2.2.2.2.2.2.1, upd f_high x.toNatClampNeg (-r7.2.2.2.2.1), f_top, f_begins, f_ends, f_goals, f_withs))
  else if r4.2.2.2.2.1 = 15 then if ((upd f_high x.toNatClampNeg r4.2.2.2.2.2.1) x.toNatClampNeg) < ((upd f_low x.toNatClampNeg r2.2.2.2.2.2.1) x.toNatClampNeg) then (0, r4.2.1, r4.2.2.1, r4.2.2.2.1, r4.2.2.2.2.1, r4.2.2.2.2.2.1, v_depth, v_asked, v_size, v_goalCount, r4.2.2.2.2.2.2.1, r4.2.2.2.2.2.2.2, f_code, r1.2.2.2.2.2.2.2.2, upd f_low x.toNatClampNeg r2.2.2.2.2.2.1, upd f_high x.toNatClampNeg r4.2.2.2.2.2.1, f_top, f_begins, f_ends, f_goals, f_withs)
    else if (lg_cmp ((((upd f_high x.toNatClampNeg r4.2.2.2.2.2.1) x.toNatClampNeg).toInt64) - (((upd f_low x.toNatClampNeg r2.2.2.2.2.2.1) x.toNatClampNeg).toInt64)) 20) < 0 then (let r5 := (s_Mo_pass f_text v_signs r4.2.2.2.2.2.2.1 r4.2.2.2.2.2.2.2 r4.2.1 r4.2.2.1 r4.2.2.2.2.1 r4.2.2.2.2.2.1);
      let r6 := (s_Mo_readWhere f_text v_signs r5.2.2.2.2.2.1 r5.2.2.2.2.2.2 r5.1 r5.2.1 r5.2.2.1 r5.2.2.2.1 r5.2.2.2.2.1 v_depth v_asked f_isTold f_letOf f_code v_size f_top f_begins f_ends f_goals f_withs v_goalCount x);
      if r6.1 = 0 then (0, r6.2.1, r6.2.2.1, r6.2.2.2.1, r6.2.2.2.2.1, r6.2.2.2.2.2.1, r6.2.2.2.2.2.2.1, r6.2.2.2.2.2.2.2.1, r6.2.2.2.2.2.2.2.2.1, r6.2.2.2.2.2.2.2.2.2.1, r6.2.2.2.2.2.2.2.2.2.2.1, r6.2.2.2.2.2.2.2.2.2.2.2.1, r6.2.2.2.2.2.2.2.2.2.2.2.2.1, r1.2.2.2.2.2.2.2.2, upd f_low x.toNatClampNeg r2.2.2.2.2.2.1, upd f_high x.toNatClampNeg r4.2.2.2.2.2.1, r6.2.2.2.2.2.2.2.2.2.2.2.2.2.1, r6.2.2.2.2.2.2.2.2.2.2.2.2.2.2.1, r6.2.2.2.2.2.2.2.2.2.2.2.2.2.2.2.1, r6.2.2.2.2.2.2.2.2.2.2.2.2.2.2.2.2.1, r6.2.2.2.2.2.2.2.2.2.2.2.2.2.2.2.2.2)
      else (1, r6.2.1, r6.2.2.1, r6.2.2.2.1, r6.2.2.2.2.1, r6.2.2.2.2.2.1, r6.2.2.2.2.2.2.1, r6.2.2.2.2.2.2.2.1, r6.2.2.2.2.2.2.2.2.1, r6.2.2.2.2.2.2.2.2.2.1, r6.2.2.2.2.2.2.2.2.2.2.1, r6.2.2.2.2.2.2.2.2.2.2.2.1, r6.2.2.2.2.2.2.2.2.2.2.2.2.1, r1.2.2.2.2.2.2.2.2, upd f_low x.toNatClampNeg r2.2.2.2.2.2.1, upd f_high x.toNatClampNeg r4.2.2.2.2.2.1, r6.2.2.2.2.2.2.2.2.2.2.2.2.2.1, r6.2.2.2.2.2.2.2.2.2.2.2.2.2.2.1, r6.2.2.2.2.2.2.2.2.2.2.2.2.2.2.2.1, r6.2.2.2.2.2.2.2.2.2.2.2.2.2.2.2.2.1, r6.2.2.2.2.2.2.2.2.2.2.2.2.2.2.2.2.2))
    else (0, r4.2.1, r4.2.2.1, r4.2.2.2.1, r4.2.2.2.2.1, r4.2.2.2.2.2.1, v_depth, v_asked, v_size, v_goalCount, r4.2.2.2.2.2.2.1, r4.2.2.2.2.2.2.2, f_code, r1.2.2.2.2.2.2.2.2, upd f_low x.toNatClampNeg r2.2.2.2.2.2.1, upd f_high x.toNatClampNeg r4.2.2.2.2.2.1, f_top, f_begins, f_ends, f_goals, f_withs)
  else (0, r4.2.1, r4.2.2.1, r4.2.2.2.1, r4.2.2.2.2.1, r4.2.2.2.2.2.1, v_depth, v_asked, v_size, v_goalCount, r4.2.2.2.2.2.2.1, r4.2.2.2.2.2.2.2, f_code, r1.2.2.2.2.2.2.2.2, upd f_low x.toNatClampNeg r2.2.2.2.2.2.1, upd f_high x.toNatClampNeg r4.2.2.2.2.2.1, f_top, f_begins, f_ends, f_goals, f_withs)
def ok_Mo_readBins (f_text : Nat → Int32) (v_signs : Int32) (f_kinds : Nat → Int32) (f_values : Nat → Int32) (v_tokens : Int32) (v_at : Int32) (v_place : Int32) (v_kind : Int32) (v_value : Int32) (v_depth : Int32) (v_asked : Int32) (f_isTold : Nat → Int32) (f_letOf : Nat → Int32) (f_code : Nat → Int32) (v_size : Int32) (f_column : Nat → Int32) (f_low : Nat → Int32) (f_high : Nat → Int32) (f_top : Nat → Int32) (f_begins : Nat → Int32) (f_ends : Nat → Int32) (f_goals : Nat → Int32) (f_withs : Nat → Int32) (v_goalCount : Int32) (x : Int32) : Prop :=
  let r1 := (s_Mo_readColumn f_text v_signs f_kinds f_values v_tokens v_at v_place v_kind v_value f_column x);
  (ok_Mo_readColumn f_text v_signs f_kinds f_values v_tokens v_at v_place v_kind v_value x) ∧ (if r1.1 = 0 then (True)
  else (let r2 := (s_Mo_passOne f_text v_signs r1.2.2.2.2.2.2.1 r1.2.2.2.2.2.2.2.1 r1.2.1 r1.2.2.1 r1.2.2.2.1 r1.2.2.2.2.1 r1.2.2.2.2.2.1 9);
  (PI v_signs r1.2.2.1 r1.2.1 r1.2.2.2.2.1 r1.2.2.2.2.2.1) ∧ (if r2.1 = 0 then (True)
  else (if r2.2.2.2.2.1 = 24 then (let r10 := (s_Mo_pass f_text v_signs r2.2.2.2.2.2.2.1 r2.2.2.2.2.2.2.2 r2.2.1 r2.2.2.1 r2.2.2.2.2.1 r2.2.2.2.2.2.1);
    (¬ r2.2.2.2.2.1 = 30) ∧ ((vp_in x 12) ∧ (let r11 := (s_Mo_passOne f_text v_signs r10.2.2.2.2.2.1 r10.2.2.2.2.2.2 r10.1 r10.2.1 r10.2.2.1 r10.2.2.2.1 r10.2.2.2.2.1 15);
    if r11.1 = 0 then (True)
    else (let r12 := (s_Mo_passOne f_text v_signs r11.2.2.2.2.2.2.1 r11.2.2.2.2.2.2.2 r11.2.1 r11.2.2.1 r11.2.2.2.1 r11.2.2.2.2.1 r11.2.2.2.2.2.1 7);
    if r12.1 = 0 then (True)
    else (if r12.2.2.2.2.1 = 24 then (let r15 := (s_Mo_pass f_text v_signs r12.2.2.2.2.2.2.1 r12.2.2.2.2.2.2.2 r12.2.1 r12.2.2.1 r12.2.2.2.2.1 r12.2.2.2.2.2.1);
      (¬ r12.2.2.2.2.1 = 30) ∧ ((vp_in x 12) ∧ (if r15.2.2.2.1 = 15 then ((vp_in x 12) ∧ ((vp_in x 12) ∧ (if ((upd f_high x.toNatClampNeg (-r15.2.2.2.2.1)) x.toNatClampNeg) < ((upd f_low x.toNatClampNeg (-r10.2.2.2.2.1)) x.toNatClampNeg) then (True)
        else ((vp_in x 12) ∧ ((vp_in x 12) ∧ (if (lg_cmp ((((upd f_high x.toNatClampNeg (-r15.2.2.2.2.1)) x.toNatClampNeg).toInt64) - (((upd f_low x.toNatClampNeg (-r10.2.2.2.2.1)) x.toNatClampNeg).toInt64)) 20) < 0 then (let r16 := (s_Mo_pass f_text v_signs r15.2.2.2.2.2.1 r15.2.2.2.2.2.2 r15.1 r15.2.1 r15.2.2.2.1 r15.2.2.2.2.1);
          (¬ r15.2.2.2.1 = 30) ∧ (let r17 := (s_Mo_readWhere f_text v_signs r16.2.2.2.2.2.1 r16.2.2.2.2.2.2 r16.1 r16.2.1 r16.2.2.1 r16.2.2.2.1 r16.2.2.2.2.1 v_depth v_asked f_isTold f_letOf f_code v_size f_top f_begins f_ends f_goals f_withs v_goalCount x);
          (ok_Mo_readWhere f_text v_signs r16.2.2.2.2.2.1 r16.2.2.2.2.2.2 r16.1 r16.2.1 r16.2.2.1 r16.2.2.2.1 r16.2.2.2.2.1 v_asked f_isTold f_letOf f_code v_size f_goals f_withs x) ∧ (if r17.1 = 0 then (True)
          else (True))))
        else (True)))))))
      else (True))))
    else ((vp_in x 12) ∧ (if r12.2.2.2.2.1 = 15 then ((vp_in x 12) ∧ ((vp_in x 12) ∧ (if ((upd f_high x.toNatClampNeg r12.2.2.2.2.2.1) x.toNatClampNeg) < ((upd f_low x.toNatClampNeg (-r10.2.2.2.2.1)) x.toNatClampNeg) then (True)
      else ((vp_in x 12) ∧ ((vp_in x 12) ∧ (if (lg_cmp ((((upd f_high x.toNatClampNeg r12.2.2.2.2.2.1) x.toNatClampNeg).toInt64) - (((upd f_low x.toNatClampNeg (-r10.2.2.2.2.1)) x.toNatClampNeg).toInt64)) 20) < 0 then (let r13 := (s_Mo_pass f_text v_signs r12.2.2.2.2.2.2.1 r12.2.2.2.2.2.2.2 r12.2.1 r12.2.2.1 r12.2.2.2.2.1 r12.2.2.2.2.2.1);
        (¬ r12.2.2.2.2.1 = 30) ∧ (let r14 := (s_Mo_readWhere f_text v_signs r13.2.2.2.2.2.1 r13.2.2.2.2.2.2 r13.1 r13.2.1 r13.2.2.1 r13.2.2.2.1 r13.2.2.2.2.1 v_depth v_asked f_isTold f_letOf f_code v_size f_top f_begins f_ends f_goals f_withs v_goalCount x);
        (ok_Mo_readWhere f_text v_signs r13.2.2.2.2.2.1 r13.2.2.2.2.2.2 r13.1 r13.2.1 r13.2.2.1 r13.2.2.2.1 r13.2.2.2.2.1 v_asked f_isTold f_letOf f_code v_size f_goals f_withs x) ∧ (if r14.1 = 0 then (True)
        else (True))))
      else (True)))))))
    else (True))))))))
  else ((vp_in x 12) ∧ (let r3 := (s_Mo_passOne f_text v_signs r2.2.2.2.2.2.2.1 r2.2.2.2.2.2.2.2 r2.2.1 r2.2.2.1 r2.2.2.2.1 r2.2.2.2.2.1 r2.2.2.2.2.2.1 15);
  if r3.1 = 0 then (True)
  else (let r4 := (s_Mo_passOne f_text v_signs r3.2.2.2.2.2.2.1 r3.2.2.2.2.2.2.2 r3.2.1 r3.2.2.1 r3.2.2.2.1 r3.2.2.2.2.1 r3.2.2.2.2.2.1 7);
  if r4.1 = 0 then (True)
  else (if r4.2.2.2.2.1 = 24 then (let r7 := (s_Mo_pass f_text v_signs r4.2.2.2.2.2.2.1 r4.2.2.2.2.2.2.2 r4.2.1 r4.2.2.1 r4.2.2.2.2.1 r4.2.2.2.2.2.1);
    (¬ r4.2.2.2.2.1 = 30) ∧ ((vp_in x 12) ∧ (if r7.2.2.2.1 = 15 then ((vp_in x 12) ∧ ((vp_in x 12) ∧ (if ((upd f_high x.toNatClampNeg (-r7.2.2.2.2.1)) x.toNatClampNeg) < ((upd f_low x.toNatClampNeg r2.2.2.2.2.2.1) x.toNatClampNeg) then (True)
      else ((vp_in x 12) ∧ ((vp_in x 12) ∧ (if (lg_cmp ((((upd f_high x.toNatClampNeg (-r7.2.2.2.2.1)) x.toNatClampNeg).toInt64) - (((upd f_low x.toNatClampNeg r2.2.2.2.2.2.1) x.toNatClampNeg).toInt64)) 20) < 0 then (let r8 := (s_Mo_pass f_text v_signs r7.2.2.2.2.2.1 r7.2.2.2.2.2.2 r7.1 r7.2.1 r7.2.2.2.1 r7.2.2.2.2.1);
        (¬ r7.2.2.2.1 = 30) ∧ (let r9 := (s_Mo_readWhere f_text v_signs r8.2.2.2.2.2.1 r8.2.2.2.2.2.2 r8.1 r8.2.1 r8.2.2.1 r8.2.2.2.1 r8.2.2.2.2.1 v_depth v_asked f_isTold f_letOf f_code v_size f_top f_begins f_ends f_goals f_withs v_goalCount x);
        (ok_Mo_readWhere f_text v_signs r8.2.2.2.2.2.1 r8.2.2.2.2.2.2 r8.1 r8.2.1 r8.2.2.1 r8.2.2.2.1 r8.2.2.2.2.1 v_asked f_isTold f_letOf f_code v_size f_goals f_withs x) ∧ (if r9.1 = 0 then (True)
        else (True))))
      else (True)))))))
    else (True))))
  else ((vp_in x 12) ∧ (if r4.2.2.2.2.1 = 15 then ((vp_in x 12) ∧ ((vp_in x 12) ∧ (if ((upd f_high x.toNatClampNeg r4.2.2.2.2.2.1) x.toNatClampNeg) < ((upd f_low x.toNatClampNeg r2.2.2.2.2.2.1) x.toNatClampNeg) then (True)
    else ((vp_in x 12) ∧ ((vp_in x 12) ∧ (if (lg_cmp ((((upd f_high x.toNatClampNeg r4.2.2.2.2.2.1) x.toNatClampNeg).toInt64) - (((upd f_low x.toNatClampNeg r2.2.2.2.2.2.1) x.toNatClampNeg).toInt64)) 20) < 0 then (let r5 := (s_Mo_pass f_text v_signs r4.2.2.2.2.2.2.1 r4.2.2.2.2.2.2.2 r4.2.1 r4.2.2.1 r4.2.2.2.2.1 r4.2.2.2.2.2.1);
      (¬ r4.2.2.2.2.1 = 30) ∧ (let r6 := (s_Mo_readWhere f_text v_signs r5.2.2.2.2.2.1 r5.2.2.2.2.2.2 r5.1 r5.2.1 r5.2.2.1 r5.2.2.2.1 r5.2.2.2.2.1 v_depth v_asked f_isTold f_letOf f_code v_size f_top f_begins f_ends f_goals f_withs v_goalCount x);
      (ok_Mo_readWhere f_text v_signs r5.2.2.2.2.2.1 r5.2.2.2.2.2.2 r5.1 r5.2.1 r5.2.2.1 r5.2.2.2.1 r5.2.2.2.2.1 v_asked f_isTold f_letOf f_code v_size f_goals f_withs x) ∧ (if r6.1 = 0 then (True)
      else (True))))
    else (True)))))))
  else (True)))))))))))
def s_Mo_readQuestion (f_text : Nat → Int32) (v_signs : Int32) (f_kinds : Nat → Int32) (f_values : Nat → Int32) (v_tokens : Int32) (v_at : Int32) (v_place : Int32) (v_kind : Int32) (v_value : Int32) (v_depth : Int32) (v_asked : Int32) (v_questions : Int32) (f_isTold : Nat → Int32) (f_letOf : Nat → Int32) (f_code : Nat → Int32) (v_size : Int32) (f_sort : Nat → Int32) (f_column : Nat → Int32) (f_low : Nat → Int32) (f_high : Nat → Int32) (f_by : Nat → Int32) (f_top : Nat → Int32) (f_begins : Nat → Int32) (f_ends : Nat → Int32) (f_goals : Nat → Int32) (f_withs : Nat → Int32) (v_goalCount : Int32) : Int32 × Int32 × Int32 × Int32 × Int32 × Int32 × Int32 × Int32 × Int32 × Int32 × Int32 × (Nat → Int32) × (Nat → Int32) × (Nat → Int32) × (Nat → Int32) × (Nat → Int32) × (Nat → Int32) × (Nat → Int32) × (Nat → Int32) × (Nat → Int32) × (Nat → Int32) × (Nat → Int32) × (Nat → Int32) × (Nat → Int32) :=
  if v_questions = 12 then (0, v_tokens, v_at, v_place, v_kind, v_value, v_depth, v_asked, v_questions, v_size, v_goalCount, f_kinds, f_values, f_code, f_sort, f_column, f_low, f_high, f_by, f_top, f_begins, f_ends, f_goals, f_withs)
  else let r1 := (s_Mo_pass f_text v_signs f_kinds f_values v_tokens v_at v_kind v_value);
  if v_kind = 2 then (let r4 := (s_Mo_readWhere f_text v_signs r1.2.2.2.2.2.1 r1.2.2.2.2.2.2 r1.1 r1.2.1 r1.2.2.1 r1.2.2.2.1 r1.2.2.2.2.1 v_depth v_asked f_isTold f_letOf f_code v_size f_top f_begins f_ends f_goals f_withs v_goalCount v_questions);
    if r4.1 = 0 then (r4.1, r4.2.1, r4.2.2.1, r4.2.2.2.1, r4.2.2.2.2.1, r4.2.2.2.2.2.1, r4.2.2.2.2.2.2.1, r4.2.2.2.2.2.2.2.1, v_questions, r4.2.2.2.2.2.2.2.2.1, r4.2.2.2.2.2.2.2.2.2.1, r4.2.2.2.2.2.2.2.2.2.2.1, r4.2.2.2.2.2.2.2.2.2.2.2.1, r4.2.2.2.2.2.2.2.2.2.2.2.2.1, upd f_sort v_questions.toNatClampNeg (v_kind - 2), upd f_column v_questions.toNatClampNeg 0, upd f_low v_questions.toNatClampNeg 0, upd f_high v_questions.toNatClampNeg 0, upd f_by v_questions.toNatClampNeg 1, r4.2.2.2.2.2.2.2.2.2.2.2.2.2.1, r4.2.2.2.2.2.2.2.2.2.2.2.2.2.2.1, r4.2.2.2.2.2.2.2.2.2.2.2.2.2.2.2.1, r4.2.2.2.2.2.2.2.2.2.2.2.2.2.2.2.2.1, r4.2.2.2.2.2.2.2.2.2.2.2.2.2.2.2.2.2)
    else (r4.1, r4.2.1, r4.2.2.1, r4.2.2.2.1, r4.2.2.2.2.1, r4.2.2.2.2.2.1, r4.2.2.2.2.2.2.1, r4.2.2.2.2.2.2.2.1, v_questions + 1, r4.2.2.2.2.2.2.2.2.1, r4.2.2.2.2.2.2.2.2.2.1, r4.2.2.2.2.2.2.2.2.2.2.1, r4.2.2.2.2.2.2.2.2.2.2.2.1, r4.2.2.2.2.2.2.2.2.2.2.2.2.1, upd f_sort v_questions.toNatClampNeg (v_kind - 2), upd f_column v_questions.toNatClampNeg 0, upd f_low v_questions.toNatClampNeg 0, upd f_high v_questions.toNatClampNeg 0, upd f_by v_questions.toNatClampNeg 1, r4.2.2.2.2.2.2.2.2.2.2.2.2.2.1, r4.2.2.2.2.2.2.2.2.2.2.2.2.2.2.1, r4.2.2.2.2.2.2.2.2.2.2.2.2.2.2.2.1, r4.2.2.2.2.2.2.2.2.2.2.2.2.2.2.2.2.1, r4.2.2.2.2.2.2.2.2.2.2.2.2.2.2.2.2.2))
  else if v_kind = 3 then (let r3 := (s_Mo_readSum f_text v_signs r1.2.2.2.2.2.1 r1.2.2.2.2.2.2 r1.1 r1.2.1 r1.2.2.1 r1.2.2.2.1 r1.2.2.2.2.1 v_depth v_asked f_isTold f_letOf f_code v_size (upd f_column v_questions.toNatClampNeg 0) (upd f_high v_questions.toNatClampNeg 0) (upd f_by v_questions.toNatClampNeg 1) f_top f_begins f_ends f_goals f_withs v_goalCount v_questions);
    if r3.1 = 0 then (r3.1, r3.2.1, r3.2.2.1, r3.2.2.2.1, r3.2.2.2.2.1, r3.2.2.2.2.2.1, r3.2.2.2.2.2.2.1, r3.2.2.2.2.2.2.2.1, v_questions, r3.2.2.2.2.2.2.2.2.1, r3.2.2.2.2.2.2.2.2.2.1, r3.2.2.2.2.2.2.2.2.2.2.1, r3.2.2.2.2.2.2.2.2.2.2.2.1, r3.2.2.2.2.2.2.2.2.2.2.2.2.1, upd f_sort v_questions.toNatClampNeg (v_kind - 2), r3.2.2.2.2.2.2.2.2.2.2.2.2.2.1, upd f_low v_questions.toNatClampNeg 0, r3.2.2.2.2.2.2.2.2.2.2.2.2.2.2.1, r3.2.2.2.2.2.2.2.2.2.2.2.2.2.2.2.1, r3.2.2.2.2.2.2.2.2.2.2.2.2.2.2.2.2.1, r3.2.2.2.2.2.2.2.2.2.2.2.2.2.2.2.2.2.1, r3.2.2.2.2.2.2.2.2.2.2.2.2.2.2.2.2.2.2.1, r3.2.2.2.2.2.2.2.2.2.2.2.2.2.2.2.2.2.2.2.1, r3.2.2.2.2.2.2.2.2.2.2.2.2.2.2.2.2.2.2.2.2)
    else (r3.1, r3.2.1, r3.2.2.1, r3.2.2.2.1, r3.2.2.2.2.1, r3.2.2.2.2.2.1, r3.2.2.2.2.2.2.1, r3.2.2.2.2.2.2.2.1, v_questions + 1, r3.2.2.2.2.2.2.2.2.1, r3.2.2.2.2.2.2.2.2.2.1, r3.2.2.2.2.2.2.2.2.2.2.1, r3.2.2.2.2.2.2.2.2.2.2.2.1, r3.2.2.2.2.2.2.2.2.2.2.2.2.1, upd f_sort v_questions.toNatClampNeg (v_kind - 2), r3.2.2.2.2.2.2.2.2.2.2.2.2.2.1, upd f_low v_questions.toNatClampNeg 0, r3.2.2.2.2.2.2.2.2.2.2.2.2.2.2.1, r3.2.2.2.2.2.2.2.2.2.2.2.2.2.2.2.1, r3.2.2.2.2.2.2.2.2.2.2.2.2.2.2.2.2.1, r3.2.2.2.2.2.2.2.2.2.2.2.2.2.2.2.2.2.1, r3.2.2.2.2.2.2.2.2.2.2.2.2.2.2.2.2.2.2.1, r3.2.2.2.2.2.2.2.2.2.2.2.2.2.2.2.2.2.2.2.1, r3.2.2.2.2.2.2.2.2.2.2.2.2.2.2.2.2.2.2.2.2))
  else let r2 := (s_Mo_readBins f_text v_signs r1.2.2.2.2.2.1 r1.2.2.2.2.2.2 r1.1 r1.2.1 r1.2.2.1 r1.2.2.2.1 r1.2.2.2.2.1 v_depth v_asked f_isTold f_letOf f_code v_size (upd f_column v_questions.toNatClampNeg 0) (upd f_low v_questions.toNatClampNeg 0) (upd f_high v_questions.toNatClampNeg 0) f_top f_begins f_ends f_goals f_withs v_goalCount v_questions);
  if r2.1 = 0 then (r2.1, r2.2.1, r2.2.2.1, r2.2.2.2.1, r2.2.2.2.2.1, r2.2.2.2.2.2.1, r2.2.2.2.2.2.2.1, r2.2.2.2.2.2.2.2.1, v_questions, r2.2.2.2.2.2.2.2.2.1, r2.2.2.2.2.2.2.2.2.2.1, r2.2.2.2.2.2.2.2.2.2.2.1, r2.2.2.2.2.2.2.2.2.2.2.2.1, r2.2.2.2.2.2.2.2.2.2.2.2.2.1, upd f_sort v_questions.toNatClampNeg (v_kind - 2), r2.2.2.2.2.2.2.2.2.2.2.2.2.2.1, r2.2.2.2.2.2.2.2.2.2.2.2.2.2.2.1, r2.2.2.2.2.2.2.2.2.2.2.2.2.2.2.2.1, upd f_by v_questions.toNatClampNeg 1, r2.2.2.2.2.2.2.2.2.2.2.2.2.2.2.2.2.1, r2.2.2.2.2.2.2.2.2.2.2.2.2.2.2.2.2.2.1, r2.2.2.2.2.2.2.2.2.2.2.2.2.2.2.2.2.2.2.1, r2.2.2.2.2.2.2.2.2.2.2.2.2.2.2.2.2.2.2.2.1, r2.2.2.2.2.2.2.2.2.2.2.2.2.2.2.2.2.2.2.2.2)
  else (r2.1, r2.2.1, r2.2.2.1, r2.2.2.2.1, r2.2.2.2.2.1, r2.2.2.2.2.2.1, r2.2.2.2.2.2.2.1, r2.2.2.2.2.2.2.2.1, v_questions + 1, r2.2.2.2.2.2.2.2.2.1, r2.2.2.2.2.2.2.2.2.2.1, r2.2.2.2.2.2.2.2.2.2.2.1, r2.2.2.2.2.2.2.2.2.2.2.2.1, r2.2.2.2.2.2.2.2.2.2.2.2.2.1, upd f_sort v_questions.toNatClampNeg (v_kind - 2), r2.2.2.2.2.2.2.2.2.2.2.2.2.2.1, r2.2.2.2.2.2.2.2.2.2.2.2.2.2.2.1, r2.2.2.2.2.2.2.2.2.2.2.2.2.2.2.2.1, upd f_by v_questions.toNatClampNeg 1, r2.2.2.2.2.2.2.2.2.2.2.2.2.2.2.2.2.1, r2.2.2.2.2.2.2.2.2.2.2.2.2.2.2.2.2.2.1, r2.2.2.2.2.2.2.2.2.2.2.2.2.2.2.2.2.2.2.1, r2.2.2.2.2.2.2.2.2.2.2.2.2.2.2.2.2.2.2.2.1, r2.2.2.2.2.2.2.2.2.2.2.2.2.2.2.2.2.2.2.2.2)
def ok_Mo_readQuestion (f_text : Nat → Int32) (v_signs : Int32) (f_kinds : Nat → Int32) (f_values : Nat → Int32) (v_tokens : Int32) (v_at : Int32) (v_kind : Int32) (v_value : Int32) (v_depth : Int32) (v_asked : Int32) (v_questions : Int32) (f_isTold : Nat → Int32) (f_letOf : Nat → Int32) (f_code : Nat → Int32) (v_size : Int32) (f_column : Nat → Int32) (f_low : Nat → Int32) (f_high : Nat → Int32) (f_by : Nat → Int32) (f_top : Nat → Int32) (f_begins : Nat → Int32) (f_ends : Nat → Int32) (f_goals : Nat → Int32) (f_withs : Nat → Int32) (v_goalCount : Int32) : Prop :=
  if v_questions = 12 then (True)
  else ((vp_in v_questions 12) ∧ ((vp_in v_questions 12) ∧ ((vp_in v_questions 12) ∧ ((vp_in v_questions 12) ∧ ((vp_in v_questions 12) ∧ (let r1 := (s_Mo_pass f_text v_signs f_kinds f_values v_tokens v_at v_kind v_value);
  (PI v_signs v_at v_tokens v_kind v_value) ∧ ((¬ v_kind = 30) ∧ (if v_kind = 2 then (let r4 := (s_Mo_readWhere f_text v_signs r1.2.2.2.2.2.1 r1.2.2.2.2.2.2 r1.1 r1.2.1 r1.2.2.1 r1.2.2.2.1 r1.2.2.2.2.1 v_depth v_asked f_isTold f_letOf f_code v_size f_top f_begins f_ends f_goals f_withs v_goalCount v_questions);
    (ok_Mo_readWhere f_text v_signs r1.2.2.2.2.2.1 r1.2.2.2.2.2.2 r1.1 r1.2.1 r1.2.2.1 r1.2.2.2.1 r1.2.2.2.2.1 v_asked f_isTold f_letOf f_code v_size f_goals f_withs v_questions) ∧ (if r4.1 = 0 then (True)
    else (True)))
  else (if v_kind = 3 then (let r3 := (s_Mo_readSum f_text v_signs r1.2.2.2.2.2.1 r1.2.2.2.2.2.2 r1.1 r1.2.1 r1.2.2.1 r1.2.2.2.1 r1.2.2.2.2.1 v_depth v_asked f_isTold f_letOf f_code v_size (upd f_column v_questions.toNatClampNeg 0) (upd f_high v_questions.toNatClampNeg 0) (upd f_by v_questions.toNatClampNeg 1) f_top f_begins f_ends f_goals f_withs v_goalCount v_questions);
    (ok_Mo_readSum f_text v_signs r1.2.2.2.2.2.1 r1.2.2.2.2.2.2 r1.1 r1.2.1 r1.2.2.1 r1.2.2.2.1 r1.2.2.2.2.1 v_depth v_asked f_isTold f_letOf f_code v_size (upd f_column v_questions.toNatClampNeg 0) f_top f_begins f_ends f_goals f_withs v_goalCount v_questions) ∧ (if r3.1 = 0 then (True)
    else (True)))
  else (let r2 := (s_Mo_readBins f_text v_signs r1.2.2.2.2.2.1 r1.2.2.2.2.2.2 r1.1 r1.2.1 r1.2.2.1 r1.2.2.2.1 r1.2.2.2.2.1 v_depth v_asked f_isTold f_letOf f_code v_size (upd f_column v_questions.toNatClampNeg 0) (upd f_low v_questions.toNatClampNeg 0) (upd f_high v_questions.toNatClampNeg 0) f_top f_begins f_ends f_goals f_withs v_goalCount v_questions);
  (ok_Mo_readBins f_text v_signs r1.2.2.2.2.2.1 r1.2.2.2.2.2.2 r1.1 r1.2.1 r1.2.2.1 r1.2.2.2.1 r1.2.2.2.2.1 v_depth v_asked f_isTold f_letOf f_code v_size (upd f_column v_questions.toNatClampNeg 0) (upd f_low v_questions.toNatClampNeg 0) (upd f_high v_questions.toNatClampNeg 0) f_top f_begins f_ends f_goals f_withs v_goalCount v_questions) ∧ (if r2.1 = 0 then (True)
  else (True))))))))))))
def s_Mo_readStatement (f_text : Nat → Int32) (v_signs : Int32) (f_kinds : Nat → Int32) (f_values : Nat → Int32) (v_tokens : Int32) (v_at : Int32) (v_place : Int32) (v_kind : Int32) (v_value : Int32) (v_depth : Int32) (v_asked : Int32) (v_lets : Int32) (v_questions : Int32) (f_isTold : Nat → Int32) (f_letOf : Nat → Int32) (f_code : Nat → Int32) (v_size : Int32) (f_letEnd : Nat → Int32) (f_letBegin : Nat → Int32) (f_sort : Nat → Int32) (f_column : Nat → Int32) (f_low : Nat → Int32) (f_high : Nat → Int32) (f_by : Nat → Int32) (f_top : Nat → Int32) (f_begins : Nat → Int32) (f_ends : Nat → Int32) (f_goals : Nat → Int32) (f_withs : Nat → Int32) (v_goalCount : Int32) : Int32 × Int32 × Int32 × Int32 × Int32 × Int32 × Int32 × Int32 × Int32 × Int32 × Int32 × Int32 × (Nat → Int32) × (Nat → Int32) × (Nat → Int32) × (Nat → Int32) × (Nat → Int32) × (Nat → Int32) × (Nat → Int32) × (Nat → Int32) × (Nat → Int32) × (Nat → Int32) × (Nat → Int32) × (Nat → Int32) × (Nat → Int32) × (Nat → Int32) × (Nat → Int32) × (Nat → Int32) × (Nat → Int32) :=
  if v_kind = 1 then (let r4 := (s_Mo_readLet f_text v_signs f_kinds f_values v_tokens v_at v_place v_kind v_value v_depth v_asked v_lets f_isTold f_letOf f_code v_size f_letEnd f_letBegin f_goals f_withs v_goalCount);
    if r4.1 = 0 then (0, r4.2.1, r4.2.2.1, r4.2.2.2.1, r4.2.2.2.2.1, r4.2.2.2.2.2.1, r4.2.2.2.2.2.2.1, r4.2.2.2.2.2.2.2.1, r4.2.2.2.2.2.2.2.2.1, v_questions, r4.2.2.2.2.2.2.2.2.2.1, r4.2.2.2.2.2.2.2.2.2.2.1, r4.2.2.2.2.2.2.2.2.2.2.2.1, r4.2.2.2.2.2.2.2.2.2.2.2.2.1, r4.2.2.2.2.2.2.2.2.2.2.2.2.2.1, r4.2.2.2.2.2.2.2.2.2.2.2.2.2.2.1, r4.2.2.2.2.2.2.2.2.2.2.2.2.2.2.2.1, r4.2.2.2.2.2.2.2.2.2.2.2.2.2.2.2.2.1, r4.2.2.2.2.2.2.2.2.2.2.2.2.2.2.2.2.2.1, f_sort, f_column, f_low, f_high, f_by, f_top, f_begins, f_ends, r4.2.2.2.2.2.2.2.2.2.2.2.2.2.2.2.2.2.2.1, r4.2.2.2.2.2.2.2.2.2.2.2.2.2.2.2.2.2.2.2)
    else let r5 := (s_Mo_passOne f_text v_signs r4.2.2.2.2.2.2.2.2.2.2.2.1 r4.2.2.2.2.2.2.2.2.2.2.2.2.1 r4.2.1 r4.2.2.1 r4.2.2.2.1 r4.2.2.2.2.1 r4.2.2.2.2.2.1 16);
    if r5.1 = 0 then (0, r5.2.1, r5.2.2.1, r5.2.2.2.1, r5.2.2.2.2.1, r5.2.2.2.2.2.1, r4.2.2.2.2.2.2.1, r4.2.2.2.2.2.2.2.1, r4.2.2.2.2.2.2.2.2.1, v_questions, r4.2.2.2.2.2.2.2.2.2.1, r4.2.2.2.2.2.2.2.2.2.2.1, r5.2.2.2.2.2.2.1, r5.2.2.2.2.2.2.2, r4.2.2.2.2.2.2.2.2.2.2.2.2.2.1, r4.2.2.2.2.2.2.2.2.2.2.2.2.2.2.1, r4.2.2.2.2.2.2.2.2.2.2.2.2.2.2.2.1, r4.2.2.2.2.2.2.2.2.2.2.2.2.2.2.2.2.1, r4.2.2.2.2.2.2.2.2.2.2.2.2.2.2.2.2.2.1, f_sort, f_column, f_low, f_high, f_by, f_top, f_begins, f_ends, r4.2.2.2.2.2.2.2.2.2.2.2.2.2.2.2.2.2.2.1, r4.2.2.2.2.2.2.2.2.2.2.2.2.2.2.2.2.2.2.2)
    else (1, r5.2.1, r5.2.2.1, r5.2.2.2.1, r5.2.2.2.2.1, r5.2.2.2.2.2.1, r4.2.2.2.2.2.2.1, r4.2.2.2.2.2.2.2.1, r4.2.2.2.2.2.2.2.2.1, v_questions, r4.2.2.2.2.2.2.2.2.2.1, r4.2.2.2.2.2.2.2.2.2.2.1, r5.2.2.2.2.2.2.1, r5.2.2.2.2.2.2.2, r4.2.2.2.2.2.2.2.2.2.2.2.2.2.1, r4.2.2.2.2.2.2.2.2.2.2.2.2.2.2.1, r4.2.2.2.2.2.2.2.2.2.2.2.2.2.2.2.1, r4.2.2.2.2.2.2.2.2.2.2.2.2.2.2.2.2.1, r4.2.2.2.2.2.2.2.2.2.2.2.2.2.2.2.2.2.1, f_sort, f_column, f_low, f_high, f_by, f_top, f_begins, f_ends, r4.2.2.2.2.2.2.2.2.2.2.2.2.2.2.2.2.2.2.1, r4.2.2.2.2.2.2.2.2.2.2.2.2.2.2.2.2.2.2.2))
  else let r1 := (s_Mo_in v_kind 2 4);
  if r1 = 0 then (0, v_tokens, v_at, v_place, v_kind, v_value, v_depth, v_asked, v_lets, v_questions, v_size, v_goalCount, f_kinds, f_values, f_isTold, f_letOf, f_code, f_letEnd, f_letBegin, f_sort, f_column, f_low, f_high, f_by, f_top, f_begins, f_ends, f_goals, f_withs)
  else let r2 := (s_Mo_readQuestion f_text v_signs f_kinds f_values v_tokens v_at v_place v_kind v_value v_depth v_asked v_questions f_isTold f_letOf f_code v_size f_sort f_column f_low f_high f_by f_top f_begins f_ends f_goals f_withs v_goalCount);
  if r2.1 = 0 then (0, r2.2.1, r2.2.2.1, r2.2.2.2.1, r2.2.2.2.2.1, r2.2.2.2.2.2.1, r2.2.2.2.2.2.2.1, r2.2.2.2.2.2.2.2.1, v_lets, r2.2.2.2.2.2.2.2.2.1, r2.2.2.2.2.2.2.2.2.2.1, r2.2.2.2.2.2.2.2.2.2.2.1, r2.2.2.2.2.2.2.2.2.2.2.2.1, r2.2.2.2.2.2.2.2.2.2.2.2.2.1, f_isTold, f_letOf, r2.2.2.2.2.2.2.2.2.2.2.2.2.2.1, f_letEnd, f_letBegin, r2.2.2.2.2.2.2.2.2.2.2.2.2.2.2.1, r2.2.2.2.2.2.2.2.2.2.2.2.2.2.2.2.1, r2.2.2.2.2.2.2.2.2.2.2.2.2.2.2.2.2.1, r2.2.2.2.2.2.2.2.2.2.2.2.2.2.2.2.2.2.1, r2.2.2.2.2.2.2.2.2.2.2.2.2.2.2.2.2.2.2.1, r2.2.2.2.2.2.2.2.2.2.2.2.2.2.2.2.2.2.2.2.1, r2.2.2.2.2.2.2.2.2.2.2.2.2.2.2.2.2.2.2.2.2.1, r2.2.2.2.2.2.2.2.2.2.2.2.2.2.2.2.2.2.2.2.2.2.1, r2.2.2.2.2.2.2.2.2.2.2.2.2.2.2.2.2.2.2.2.2.2.2.1, r2.2.2.2.2.2.2.2.2.2.2.2.2.2.2.2.2.2.2.2.2.2.2.2)
  else let r3 := (s_Mo_passOne f_text v_signs r2.2.2.2.2.2.2.2.2.2.2.2.1 r2.2.2.2.2.2.2.2.2.2.2.2.2.1 r2.2.1 r2.2.2.1 r2.2.2.2.1 r2.2.2.2.2.1 r2.2.2.2.2.2.1 16);
  if r3.1 = 0 then (0, r3.2.1, r3.2.2.1, r3.2.2.2.1, r3.2.2.2.2.1, r3.2.2.2.2.2.1, r2.2.2.2.2.2.2.1, r2.2.2.2.2.2.2.2.1, v_lets, r2.2.2.2.2.2.2.2.2.1, r2.2.2.2.2.2.2.2.2.2.1, r2.2.2.2.2.2.2.2.2.2.2.1, r3.2.2.2.2.2.2.1, r3.2.2.2.2.2.2.2, f_isTold, f_letOf, r2.2.2.2.2.2.2.2.2.2.2.2.2.2.1, f_letEnd, f_letBegin, r2.2.2.2.2.2.2.2.2.2.2.2.2.2.2.1, r2.2.2.2.2.2.2.2.2.2.2.2.2.2.2.2.1, r2.2.2.2.2.2.2.2.2.2.2.2.2.2.2.2.2.1, r2.2.2.2.2.2.2.2.2.2.2.2.2.2.2.2.2.2.1, r2.2.2.2.2.2.2.2.2.2.2.2.2.2.2.2.2.2.2.1, r2.2.2.2.2.2.2.2.2.2.2.2.2.2.2.2.2.2.2.2.1, r2.2.2.2.2.2.2.2.2.2.2.2.2.2.2.2.2.2.2.2.2.1, r2.2.2.2.2.2.2.2.2.2.2.2.2.2.2.2.2.2.2.2.2.2.1, r2.2.2.2.2.2.2.2.2.2.2.2.2.2.2.2.2.2.2.2.2.2.2.1, r2.2.2.2.2.2.2.2.2.2.2.2.2.2.2.2.2.2.2.2.2.2.2.2)
  else (1, r3.2.1, r3.2.2.1, r3.2.2.2.1, r3.2.2.2.2.1, r3.2.2.2.2.2.1, r2.2.2.2.2.2.2.1, r2.2.2.2.2.2.2.2.1, v_lets, r2.2.2.2.2.2.2.2.2.1, r2.2.2.2.2.2.2.2.2.2.1, r2.2.2.2.2.2.2.2.2.2.2.1, r3.2.2.2.2.2.2.1, r3.2.2.2.2.2.2.2, f_isTold, f_letOf, r2.2.2.2.2.2.2.2.2.2.2.2.2.2.1, f_letEnd, f_letBegin, r2.2.2.2.2.2.2.2.2.2.2.2.2.2.2.1, r2.2.2.2.2.2.2.2.2.2.2.2.2.2.2.2.1, r2.2.2.2.2.2.2.2.2.2.2.2.2.2.2.2.2.1, r2.2.2.2.2.2.2.2.2.2.2.2.2.2.2.2.2.2.1, r2.2.2.2.2.2.2.2.2.2.2.2.2.2.2.2.2.2.2.1, r2.2.2.2.2.2.2.2.2.2.2.2.2.2.2.2.2.2.2.2.1, r2.2.2.2.2.2.2.2.2.2.2.2.2.2.2.2.2.2.2.2.2.1, r2.2.2.2.2.2.2.2.2.2.2.2.2.2.2.2.2.2.2.2.2.2.1, r2.2.2.2.2.2.2.2.2.2.2.2.2.2.2.2.2.2.2.2.2.2.2.1, r2.2.2.2.2.2.2.2.2.2.2.2.2.2.2.2.2.2.2.2.2.2.2.2)
def ok_Mo_readStatement (f_text : Nat → Int32) (v_signs : Int32) (f_kinds : Nat → Int32) (f_values : Nat → Int32) (v_tokens : Int32) (v_at : Int32) (v_place : Int32) (v_kind : Int32) (v_value : Int32) (v_depth : Int32) (v_asked : Int32) (v_lets : Int32) (v_questions : Int32) (f_isTold : Nat → Int32) (f_letOf : Nat → Int32) (f_code : Nat → Int32) (v_size : Int32) (f_letEnd : Nat → Int32) (f_letBegin : Nat → Int32) (f_sort : Nat → Int32) (f_column : Nat → Int32) (f_low : Nat → Int32) (f_high : Nat → Int32) (f_by : Nat → Int32) (f_top : Nat → Int32) (f_begins : Nat → Int32) (f_ends : Nat → Int32) (f_goals : Nat → Int32) (f_withs : Nat → Int32) (v_goalCount : Int32) : Prop :=
  if v_kind = 1 then (let r4 := (s_Mo_readLet f_text v_signs f_kinds f_values v_tokens v_at v_place v_kind v_value v_depth v_asked v_lets f_isTold f_letOf f_code v_size f_letEnd f_letBegin f_goals f_withs v_goalCount);
    (ok_Mo_readLet f_text v_signs f_kinds f_values v_tokens v_at v_kind v_value v_asked v_lets f_isTold f_letOf f_code v_size f_goals f_withs) ∧ (if r4.1 = 0 then (True)
    else (let r5 := (s_Mo_passOne f_text v_signs r4.2.2.2.2.2.2.2.2.2.2.2.1 r4.2.2.2.2.2.2.2.2.2.2.2.2.1 r4.2.1 r4.2.2.1 r4.2.2.2.1 r4.2.2.2.2.1 r4.2.2.2.2.2.1 16);
    (PI v_signs r4.2.2.1 r4.2.1 r4.2.2.2.2.1 r4.2.2.2.2.2.1) ∧ (if r5.1 = 0 then (True)
    else (True)))))
  else (let r1 := (s_Mo_in v_kind 2 4);
  if r1 = 0 then (True)
  else (let r2 := (s_Mo_readQuestion f_text v_signs f_kinds f_values v_tokens v_at v_place v_kind v_value v_depth v_asked v_questions f_isTold f_letOf f_code v_size f_sort f_column f_low f_high f_by f_top f_begins f_ends f_goals f_withs v_goalCount);
  (ok_Mo_readQuestion f_text v_signs f_kinds f_values v_tokens v_at v_kind v_value v_depth v_asked v_questions f_isTold f_letOf f_code v_size f_column f_low f_high f_by f_top f_begins f_ends f_goals f_withs v_goalCount) ∧ (if r2.1 = 0 then (True)
  else (let r3 := (s_Mo_passOne f_text v_signs r2.2.2.2.2.2.2.2.2.2.2.2.1 r2.2.2.2.2.2.2.2.2.2.2.2.2.1 r2.2.1 r2.2.2.1 r2.2.2.2.1 r2.2.2.2.2.1 r2.2.2.2.2.2.1 16);
  (PI v_signs r2.2.2.1 r2.2.1 r2.2.2.2.2.1 r2.2.2.2.2.2.1) ∧ (if r3.1 = 0 then (True)
  else (True))))))
def lp_Mo_take_31 (f_kinds : Nat → Int32) (f_values : Nat → Int32) (v_tokens : Int32) : Nat → Int32 → (Nat → Int32) → (Nat → Int32) → Int32 → Int32 × (Nat → Int32) × (Nat → Int32)
  | 0, i1, g_a_scriptKinds, g_a_scriptValues, _ => (i1, g_a_scriptKinds, g_a_scriptValues)
  | n + 1, i1, g_a_scriptKinds, g_a_scriptValues, w39_h =>
    if v_tokens ≤ i1 then (i1, g_a_scriptKinds, g_a_scriptValues)
    else (lp_Mo_take_31 f_kinds f_values v_tokens n (i1 + 1) (upd g_a_scriptKinds i1.toNatClampNeg (f_kinds i1.toNatClampNeg)) (upd g_a_scriptValues i1.toNatClampNeg (f_values i1.toNatClampNeg)) w39_h)
def oklp_Mo_take_31 (f_kinds : Nat → Int32) (f_values : Nat → Int32) (v_tokens : Int32) : Nat → Int32 → (Nat → Int32) → (Nat → Int32) → Int32 → Prop
  | 0, _, _, _, _ => False
  | n + 1, i1, g_a_scriptKinds, g_a_scriptValues, w39_h =>
    if v_tokens ≤ i1 then (True)
    else ((vp_in i1 2000) ∧ ((vp_in i1 2000) ∧ ((vp_in i1 2000) ∧ ((vp_in i1 2000) ∧ ((oklp_Mo_take_31 f_kinds f_values v_tokens n (i1 + 1) (upd g_a_scriptKinds i1.toNatClampNeg (f_kinds i1.toNatClampNeg)) (upd g_a_scriptValues i1.toNatClampNeg (f_values i1.toNatClampNeg)) w39_h))))))
def lp_Mo_take_71 (f_code : Nat → Int32) (v_size : Int32) : Nat → Int32 → (Nat → Int32) → Int32 → (Nat → Int32) → (Nat → Int32) → Int32 × (Nat → Int32)
  | 0, i1, g_a_scriptCode, _, _, _ => (i1, g_a_scriptCode)
  | n + 1, i1, g_a_scriptCode, w39_h, g_a_scriptKinds, g_a_scriptValues =>
    if v_size ≤ i1 then (i1, g_a_scriptCode)
    else (lp_Mo_take_71 f_code v_size n (i1 + 1) (upd g_a_scriptCode i1.toNatClampNeg (f_code i1.toNatClampNeg)) w39_h g_a_scriptKinds g_a_scriptValues)
def oklp_Mo_take_71 (f_code : Nat → Int32) (v_size : Int32) : Nat → Int32 → (Nat → Int32) → Int32 → (Nat → Int32) → (Nat → Int32) → Prop
  | 0, _, _, _, _, _ => False
  | n + 1, i1, g_a_scriptCode, w39_h, g_a_scriptKinds, g_a_scriptValues =>
    if v_size ≤ i1 then (True)
    else ((vp_in i1 4000) ∧ ((vp_in i1 4000) ∧ ((oklp_Mo_take_71 f_code v_size n (i1 + 1) (upd g_a_scriptCode i1.toNatClampNeg (f_code i1.toNatClampNeg)) w39_h g_a_scriptKinds g_a_scriptValues))))
def lp_Mo_take_99 (v_lets : Int32) (f_letEnd : Nat → Int32) (f_letBegin : Nat → Int32) : Nat → Int32 → (Nat → Int32) → (Nat → Int32) → Int32 → (Nat → Int32) → (Nat → Int32) → (Nat → Int32) → Int32 × (Nat → Int32) × (Nat → Int32)
  | 0, i1, g_a_scriptLetBegin, g_a_scriptLetEnd, _, _, _, _ => (i1, g_a_scriptLetBegin, g_a_scriptLetEnd)
  | n + 1, i1, g_a_scriptLetBegin, g_a_scriptLetEnd, w39_h, g_a_scriptKinds, g_a_scriptValues, g_a_scriptCode =>
    if v_lets ≤ i1 then (i1, g_a_scriptLetBegin, g_a_scriptLetEnd)
    else (lp_Mo_take_99 v_lets f_letEnd f_letBegin n (i1 + 1) (upd g_a_scriptLetBegin i1.toNatClampNeg (f_letBegin i1.toNatClampNeg)) (upd g_a_scriptLetEnd i1.toNatClampNeg (f_letEnd i1.toNatClampNeg)) w39_h g_a_scriptKinds g_a_scriptValues g_a_scriptCode)
def oklp_Mo_take_99 (v_lets : Int32) (f_letEnd : Nat → Int32) (f_letBegin : Nat → Int32) : Nat → Int32 → (Nat → Int32) → (Nat → Int32) → Int32 → (Nat → Int32) → (Nat → Int32) → (Nat → Int32) → Prop
  | 0, _, _, _, _, _, _, _ => False
  | n + 1, i1, g_a_scriptLetBegin, g_a_scriptLetEnd, w39_h, g_a_scriptKinds, g_a_scriptValues, g_a_scriptCode =>
    if v_lets ≤ i1 then (True)
    else ((vp_in i1 10) ∧ ((vp_in i1 10) ∧ ((vp_in i1 10) ∧ ((vp_in i1 10) ∧ ((oklp_Mo_take_99 v_lets f_letEnd f_letBegin n (i1 + 1) (upd g_a_scriptLetBegin i1.toNatClampNeg (f_letBegin i1.toNatClampNeg)) (upd g_a_scriptLetEnd i1.toNatClampNeg (f_letEnd i1.toNatClampNeg)) w39_h g_a_scriptKinds g_a_scriptValues g_a_scriptCode))))))
def lp_Mo_take_139 (v_tokens : Int32) (v_lets : Int32) (v_questions : Int32) (f_sort : Nat → Int32) (f_column : Nat → Int32) (f_low : Nat → Int32) (f_high : Nat → Int32) (f_by : Nat → Int32) (f_top : Nat → Int32) (f_begins : Nat → Int32) (f_ends : Nat → Int32) : Nat → Int32 → (Nat → Int32) → (Nat → Int32) → (Nat → Int32) → (Nat → Int32) → (Nat → Int32) → (Nat → Int32) → (Nat → Int32) → (Nat → Int32) → Int32 → (Nat → Int32) → (Nat → Int32) → (Nat → Int32) → (Nat → Int32) → (Nat → Int32) → Int32 × Int32 × Int32 × Int32 × (Nat → Int32) × (Nat → Int32) × (Nat → Int32) × (Nat → Int32) × (Nat → Int32) × (Nat → Int32) × (Nat → Int32) × (Nat → Int32) × (Nat → Int32) × (Nat → Int32) × (Nat → Int32) × (Nat → Int32) × (Nat → Int32)
  | 0, _, _, _, _, _, _, _, _, _, _, _, _, _, _, _ => (0, 0, 0, 0, (fun _ => 0), (fun _ => 0), (fun _ => 0), (fun _ => 0), (fun _ => 0), (fun _ => 0), (fun _ => 0), (fun _ => 0), (fun _ => 0), (fun _ => 0), (fun _ => 0), (fun _ => 0), (fun _ => 0))
  | n + 1, i1, g_a_aSort, g_a_aColumn, g_a_aLow, g_a_aHigh, g_a_aBy, g_a_aTop, g_a_aBegin, g_a_anEnd, w39_h, g_a_scriptKinds, g_a_scriptValues, g_a_scriptCode, g_a_scriptLetBegin, g_a_scriptLetEnd =>
    if v_questions ≤ i1 then (v_tokens, w39_h, v_lets, v_questions, g_a_scriptKinds, g_a_scriptValues, g_a_scriptCode, g_a_scriptLetBegin, g_a_scriptLetEnd, g_a_aSort, g_a_aColumn, g_a_aLow, g_a_aHigh, g_a_aBy, g_a_aTop, g_a_aBegin, g_a_anEnd)
    else (lp_Mo_take_139 v_tokens v_lets v_questions f_sort f_column f_low f_high f_by f_top f_begins f_ends n (i1 + 1) (upd g_a_aSort i1.toNatClampNeg (f_sort i1.toNatClampNeg)) (upd g_a_aColumn i1.toNatClampNeg (f_column i1.toNatClampNeg)) (upd g_a_aLow i1.toNatClampNeg (f_low i1.toNatClampNeg)) (upd g_a_aHigh i1.toNatClampNeg (f_high i1.toNatClampNeg)) (upd g_a_aBy i1.toNatClampNeg (f_by i1.toNatClampNeg)) (upd g_a_aTop i1.toNatClampNeg (f_top i1.toNatClampNeg)) (upd g_a_aBegin i1.toNatClampNeg (f_begins i1.toNatClampNeg)) (upd g_a_anEnd i1.toNatClampNeg (f_ends i1.toNatClampNeg)) w39_h g_a_scriptKinds g_a_scriptValues g_a_scriptCode g_a_scriptLetBegin g_a_scriptLetEnd)
def oklp_Mo_take_139 (v_tokens : Int32) (v_lets : Int32) (v_questions : Int32) (f_sort : Nat → Int32) (f_column : Nat → Int32) (f_low : Nat → Int32) (f_high : Nat → Int32) (f_by : Nat → Int32) (f_top : Nat → Int32) (f_begins : Nat → Int32) (f_ends : Nat → Int32) : Nat → Int32 → (Nat → Int32) → (Nat → Int32) → (Nat → Int32) → (Nat → Int32) → (Nat → Int32) → (Nat → Int32) → (Nat → Int32) → (Nat → Int32) → Int32 → (Nat → Int32) → (Nat → Int32) → (Nat → Int32) → (Nat → Int32) → (Nat → Int32) → Prop
  | 0, _, _, _, _, _, _, _, _, _, _, _, _, _, _, _ => False
  | n + 1, i1, g_a_aSort, g_a_aColumn, g_a_aLow, g_a_aHigh, g_a_aBy, g_a_aTop, g_a_aBegin, g_a_anEnd, w39_h, g_a_scriptKinds, g_a_scriptValues, g_a_scriptCode, g_a_scriptLetBegin, g_a_scriptLetEnd =>
    if v_questions ≤ i1 then (True)
    else ((vp_in i1 12) ∧ ((vp_in i1 12) ∧ ((vp_in i1 12) ∧ ((vp_in i1 12) ∧ ((vp_in i1 12) ∧ ((vp_in i1 12) ∧ ((vp_in i1 12) ∧ ((vp_in i1 12) ∧ ((vp_in i1 12) ∧ ((vp_in i1 12) ∧ ((vp_in i1 12) ∧ ((vp_in i1 12) ∧ ((vp_in i1 12) ∧ ((vp_in i1 12) ∧ ((vp_in i1 12) ∧ ((vp_in i1 12) ∧ ((oklp_Mo_take_139 v_tokens v_lets v_questions f_sort f_column f_low f_high f_by f_top f_begins f_ends n (i1 + 1) (upd g_a_aSort i1.toNatClampNeg (f_sort i1.toNatClampNeg)) (upd g_a_aColumn i1.toNatClampNeg (f_column i1.toNatClampNeg)) (upd g_a_aLow i1.toNatClampNeg (f_low i1.toNatClampNeg)) (upd g_a_aHigh i1.toNatClampNeg (f_high i1.toNatClampNeg)) (upd g_a_aBy i1.toNatClampNeg (f_by i1.toNatClampNeg)) (upd g_a_aTop i1.toNatClampNeg (f_top i1.toNatClampNeg)) (upd g_a_aBegin i1.toNatClampNeg (f_begins i1.toNatClampNeg)) (upd g_a_anEnd i1.toNatClampNeg (f_ends i1.toNatClampNeg)) w39_h g_a_scriptKinds g_a_scriptValues g_a_scriptCode g_a_scriptLetBegin g_a_scriptLetEnd))))))))))))))))))
def s_Mo_take (f_kinds : Nat → Int32) (f_values : Nat → Int32) (v_tokens : Int32) (f_scriptKinds : Nat → Int32) (f_scriptValues : Nat → Int32) (v_lets : Int32) (v_questions : Int32) (f_code : Nat → Int32) (v_size : Int32) (f_letEnd : Nat → Int32) (f_letBegin : Nat → Int32) (f_sort : Nat → Int32) (f_column : Nat → Int32) (f_low : Nat → Int32) (f_high : Nat → Int32) (f_by : Nat → Int32) (f_top : Nat → Int32) (f_begins : Nat → Int32) (f_ends : Nat → Int32) (f_scriptCode : Nat → Int32) (f_scriptLetBegin : Nat → Int32) (f_scriptLetEnd : Nat → Int32) (f_aSort : Nat → Int32) (f_aColumn : Nat → Int32) (f_aLow : Nat → Int32) (f_aHigh : Nat → Int32) (f_aBy : Nat → Int32) (f_aTop : Nat → Int32) (f_aBegin : Nat → Int32) (f_anEnd : Nat → Int32) : Int32 × Int32 × Int32 × Int32 × (Nat → Int32) × (Nat → Int32) × (Nat → Int32) × (Nat → Int32) × (Nat → Int32) × (Nat → Int32) × (Nat → Int32) × (Nat → Int32) × (Nat → Int32) × (Nat → Int32) × (Nat → Int32) × (Nat → Int32) × (Nat → Int32) :=
  let r1 := (lp_Mo_take_31 f_kinds f_values v_tokens 2001 (0 : Int32) f_scriptKinds f_scriptValues (1 : Int32));
  let r2 := (lp_Mo_take_71 f_code v_size 4001 (0 : Int32) f_scriptCode (1 : Int32) r1.2.1 r1.2.2);
  let r3 := (lp_Mo_take_99 v_lets f_letEnd f_letBegin 11 (0 : Int32) f_scriptLetBegin f_scriptLetEnd (1 : Int32) r1.2.1 r1.2.2 r2.2);
  (lp_Mo_take_139 v_tokens v_lets v_questions f_sort f_column f_low f_high f_by f_top f_begins f_ends 13 (0 : Int32) f_aSort f_aColumn f_aLow f_aHigh f_aBy f_aTop f_aBegin f_anEnd (1 : Int32) r1.2.1 r1.2.2 r2.2 r3.2.1 r3.2.2)
def ok_Mo_take (f_kinds : Nat → Int32) (f_values : Nat → Int32) (v_tokens : Int32) (f_scriptKinds : Nat → Int32) (f_scriptValues : Nat → Int32) (v_lets : Int32) (v_questions : Int32) (f_code : Nat → Int32) (v_size : Int32) (f_letEnd : Nat → Int32) (f_letBegin : Nat → Int32) (f_sort : Nat → Int32) (f_column : Nat → Int32) (f_low : Nat → Int32) (f_high : Nat → Int32) (f_by : Nat → Int32) (f_top : Nat → Int32) (f_begins : Nat → Int32) (f_ends : Nat → Int32) (f_scriptCode : Nat → Int32) (f_scriptLetBegin : Nat → Int32) (f_scriptLetEnd : Nat → Int32) (f_aSort : Nat → Int32) (f_aColumn : Nat → Int32) (f_aLow : Nat → Int32) (f_aHigh : Nat → Int32) (f_aBy : Nat → Int32) (f_aTop : Nat → Int32) (f_aBegin : Nat → Int32) (f_anEnd : Nat → Int32) : Prop :=
  ((oklp_Mo_take_31 f_kinds f_values v_tokens 2001 (0 : Int32) f_scriptKinds f_scriptValues (1 : Int32))) ∧ (let r1 := (lp_Mo_take_31 f_kinds f_values v_tokens 2001 (0 : Int32) f_scriptKinds f_scriptValues (1 : Int32));
  ((oklp_Mo_take_71 f_code v_size 4001 (0 : Int32) f_scriptCode (1 : Int32) r1.2.1 r1.2.2)) ∧ (let r2 := (lp_Mo_take_71 f_code v_size 4001 (0 : Int32) f_scriptCode (1 : Int32) r1.2.1 r1.2.2);
  ((oklp_Mo_take_99 v_lets f_letEnd f_letBegin 11 (0 : Int32) f_scriptLetBegin f_scriptLetEnd (1 : Int32) r1.2.1 r1.2.2 r2.2)) ∧ (let r3 := (lp_Mo_take_99 v_lets f_letEnd f_letBegin 11 (0 : Int32) f_scriptLetBegin f_scriptLetEnd (1 : Int32) r1.2.1 r1.2.2 r2.2);
  (oklp_Mo_take_139 v_tokens v_lets v_questions f_sort f_column f_low f_high f_by f_top f_begins f_ends 13 (0 : Int32) f_aSort f_aColumn f_aLow f_aHigh f_aBy f_aTop f_aBegin f_anEnd (1 : Int32) r1.2.1 r1.2.2 r2.2 r3.2.1 r3.2.2))))
def s_PQ_nearest (x : Int32) (z : Int32) (v : Int32) : Int32 :=
  (if z < if x < v then x else v then if x < v then x else v else z)
def s_PQ_isUpTo (x : Int32) (z : Int32) : Int32 :=
  if x < 0 then 0
  else if z < x then 0
  else 1
def s_PQ_row (table_f_numbers : Nat → Int32) (table__rows : Int32) (x1 : Int32) (x2 : Int32) (x3 : Int32) (x4 : Int32) (x5 : Int32) (x6 : Int32) : Int32 × Int32 × (Nat → Int32) :=
  if table__rows < 60 then (let r1 := (s_Tab_add table_f_numbers table__rows x1 x2 x3 x4 x5 x6);
    (r1.1 - 1, r1.1, r1.2))
  else ((-106), table__rows, table_f_numbers)
def s_PQ_drop (table_f_numbers : Nat → Int32) (table__rows : Int32) (x : Int32) : Int32 × Int32 × (Nat → Int32) :=
  if x < 0 then ((-101), table__rows, table_f_numbers)
  else if x < table__rows then (let r1 := (s_Tab_remove table_f_numbers table__rows x);
    (r1.1, r1.1, r1.2))
  else ((-101), table__rows, table_f_numbers)
def ok_PQ_drop (table_f_numbers : Nat → Int32) (table__rows : Int32) (x : Int32) : Prop :=
  if x < 0 then (True)
  else (if x < table__rows then (let r1 := (s_Tab_remove table_f_numbers table__rows x);
    (up table__rows 60) ∧ (True))
  else (True))
def s_PQ_draws (tape__p : Int32) (tape__q : Int32) (tape_f_cells : Nat → Int32) (tape__size : Int32) (x : Int32) (z : Int32) : Int32 × Int32 × (Nat → Int32) :=
  if z = (-1) then (let r1 := (s_Tape_isCell tape__p tape__q x);
    if r1 = 0 then ((-102), tape__size, tape_f_cells)
    else if (tape__size + 1) ≤ 3000 then (let r2 := (s_Tape_add tape_f_cells tape__size x);
      (r2.1, r2.1, r2.2))
    else ((-106), tape__size, tape_f_cells))
  else let r3 := (s_Tape_isCell tape__p tape__q x);
  if r3 = 0 then ((-102), tape__size, tape_f_cells)
  else let r4 := (s_Tape_isCell tape__p tape__q z);
  if r4 = 0 then ((-102), tape__size, tape_f_cells)
  else if (tape__size + 2) ≤ 3000 then (let r5 := (s_Tape_add tape_f_cells tape__size x);
    let r6 := (s_Tape_add r5.2 r5.1 z);
    (r6.1, r6.1, r6.2))
  else ((-106), tape__size, tape_f_cells)
def ok_PQ_draws (tape__p : Int32) (tape__q : Int32) (tape_f_cells : Nat → Int32) (tape__size : Int32) (x : Int32) (z : Int32) : Prop :=
  if z = (-1) then (let r1 := (s_Tape_isCell tape__p tape__q x);
    if r1 = 0 then (True)
    else (if (tape__size + 1) ≤ 3000 then (let r2 := (s_Tape_add tape_f_cells tape__size x);
      (up tape__size 3000) ∧ (True))
    else (True)))
  else (let r3 := (s_Tape_isCell tape__p tape__q x);
  if r3 = 0 then (True)
  else (let r4 := (s_Tape_isCell tape__p tape__q z);
  if r4 = 0 then (True)
  else (if (tape__size + 2) ≤ 3000 then (let r5 := (s_Tape_add tape_f_cells tape__size x);
    (up tape__size 3000) ∧ (let r6 := (s_Tape_add r5.2 r5.1 z);
    (up r5.1 3000) ∧ (True)))
  else (True))))
def s_PQ_count (table__rows : Int32) (tape__size : Int32) (text__size : Int32) (v_toldSize : Int32) (script__asked : Int32) (script__lets : Int32) (v_hasScript : Int32) (x : Int32) : Int32 :=
  if x = 0 then table__rows
  else if x = 1 then tape__size
  else if x = 2 then text__size
  else if x = 3 then (if v_hasScript = 0 then 0
    else script__asked)
  else if x = 4 then (if v_hasScript = 0 then 0
    else script__lets)
  else if x = 5 then v_toldSize
  else (-102)
def s_PQ_budget (purses_f_granted : Nat → Int32) (purses_f_spent : Nat → Int32) (x : Int32) (z : Int32) : Int32 × (Nat → Int32) :=
  let r1 := (s_Pur_isKnown x);
  if r1 = 0 then ((-101), purses_f_granted)
  else if z < 0 then ((-102), purses_f_granted)
  else if z ≤ 1000000 then (let r2 := (s_Pur_spentBy purses_f_spent x);
    if r2 ≤ z then (let r3 := (s_Pur_grantedTo purses_f_granted x);
      let r4 := (s_Pur_grant purses_f_granted x z);
      (r3, r4))
    else ((-103), purses_f_granted))
  else ((-102), purses_f_granted)
def s_PQ_ledger (purses_f_granted : Nat → Int32) (purses_f_spent : Nat → Int32) (x : Int32) (z : Int32) : Int32 :=
  let r1 := (s_Pur_isKnown x);
  if r1 = 0 then (-101)
  else if z < 0 then (-102)
  else if z ≤ 1 then (if z = 0 then (let r3 := (s_Pur_spentBy purses_f_spent x);
      r3)
    else let r2 := (s_Pur_leftTo purses_f_granted purses_f_spent x);
    r2)
  else (-102)
def s_PQ_type (text_f_signs : Nat → Int32) (text__size : Int32) (x : Int64) (z : Int32) : Int32 × Int32 × (Nat → Int32) :=
  if z < 1 then ((-102), text__size, text_f_signs)
  else if 8 < z then ((-102), text__size, text_f_signs)
  else let r1 := (lp_Text_areSigns x z (((z.toInt - (0 : Int32).toInt).toNat) + 1) (0 : Int32));
  if r1 = 0 then ((-102), text__size, text_f_signs)
  else if (text__size + z) ≤ 2000 then (let r2 := (lp_Text_add x ((((z - 1).toInt + 1).toNat) + 1) (z - 1) text_f_signs text__size);
    (r2.1, r2.1, r2.2))
  else ((-106), text__size, text_f_signs)
def ok_PQ_type (text_f_signs : Nat → Int32) (text__size : Int32) (x : Int64) (z : Int32) : Prop :=
  if z < 1 then (True)
  else (if 8 < z then (True)
  else (let r1 := (lp_Text_areSigns x z (((z.toInt - (0 : Int32).toInt).toNat) + 1) (0 : Int32));
  if r1 = 0 then (True)
  else (if (text__size + z) ≤ 2000 then (let r2 := (lp_Text_add x ((((z - 1).toInt + 1).toNat) + 1) (z - 1) text_f_signs text__size);
    (up text__size 2000) ∧ (True))
  else (True))))
def s_PQ_told (f_toldNumbers : Nat → Int32) (v_toldSize : Int32) (x : Int32) : Int32 :=
  if x < 0 then (-1)
  else if v_toldSize ≤ x then (-1)
  else if 240 ≤ x then (-1)
  else (f_toldNumbers x.toNatClampNeg)
def s_PQ_noise (tape__p : Int32) (tape__q : Int32) (tape_f_cells : Nat → Int32) (tape__size : Int32) (x : Int32) (z : Int32) : Int32 :=
  let r1 := (s_PQ_isUpTo z 30);
  if r1 = 0 then (-102)
  else if 0 ≤ x then (if x ≤ (tape__size - (z + 1)) then (let r2 := (s_Tape_blockNoise tape__p tape__q tape_f_cells tape__size x z);
      r2)
    else (-105))
  else (-102)
def ok_PQ_noise (tape__p : Int32) (tape__q : Int32) (tape_f_cells : Nat → Int32) (tape__size : Int32) (x : Int32) (z : Int32) : Prop :=
  let r1 := (s_PQ_isUpTo z 30);
  if r1 = 0 then (True)
  else (if 0 ≤ x then (if x ≤ (tape__size - (z + 1)) then (let r2 := (s_Tape_blockNoise tape__p tape__q tape_f_cells tape__size x z);
      (up tape__size 3000) ∧ ((z.toInt ≤ 1000) ∧ (True)))
    else (True))
  else (True))
def s_PQ_out (written_f_signs : Nat → Int32) (written__size : Int32) (x : Int32) : Int32 :=
  let r1 := (s_Out_signAt written_f_signs written__size x);
  r1
def ok_PQ_out (written_f_signs : Nat → Int32) (written__size : Int32) (x : Int32) : Prop :=
  let r1 := (s_Out_signAt written_f_signs written__size x);
  (up written__size 4000) ∧ (True)
def s_PQ_within (x : Int32) (z : Int32) (v : Int32) : Int32 :=
  let r1 := (s_PQ_isUpTo v 30);
  if r1 = 0 then 0
  else let r2 := (s_PQ_isUpTo x v);
  if r2 = 0 then 0
  else let r3 := (s_PQ_isUpTo z v);
  if r3 = 0 then 0
  else 1
def s_PQ_workOutShare (v_p : Int32) (v_q : Int32) (product_f_digits : Nat → Int32) (x : Int32) (z : Int32) (v : Int32) : Int32 × (Nat → Int32) :=
  if v = 0 then (let r10 := (lp_Prod_times (v_p + v_q) 1 ((((1 : Int32).toInt - (0 : Int32).toInt).toNat) + 1) (0 : Int32) (upd product_f_digits (0 : Int32).toNatClampNeg 1) 1);
    (r10.1, r10.2))
  else if z = 0 then (let r1 := (lp_Prod_times v_q 1 ((((1 : Int32).toInt - (0 : Int32).toInt).toNat) + 1) (0 : Int32) (upd product_f_digits (0 : Int32).toNatClampNeg 1) 1);
    let r2 := (lp_Prod_times v_p (if 0 ≤ (x - z) then x - z else 0 - (x - z)) ((((if 0 ≤ (x - z) then x - z else 0 - (x - z)).toInt - (0 : Int32).toInt).toNat) + 1) (0 : Int32) r1.2 r1.1);
    let r3 := (lp_Prod_times v_q (v - (if 0 ≤ (x - z) then x - z else 0 - (x - z))) ((((v - (if 0 ≤ (x - z) then x - z else 0 - (x - z))).toInt - (0 : Int32).toInt).toNat) + 1) (0 : Int32) r2.2 r2.1);
    (r3.1, r3.2))
  else if z = v then (let r7 := (lp_Prod_times v_q 1 ((((1 : Int32).toInt - (0 : Int32).toInt).toNat) + 1) (0 : Int32) (upd product_f_digits (0 : Int32).toNatClampNeg 1) 1);
    let r8 := (lp_Prod_times v_p (if 0 ≤ (x - z) then x - z else 0 - (x - z)) ((((if 0 ≤ (x - z) then x - z else 0 - (x - z)).toInt - (0 : Int32).toInt).toNat) + 1) (0 : Int32) r7.2 r7.1);
    let r9 := (lp_Prod_times v_q (v - (if 0 ≤ (x - z) then x - z else 0 - (x - z))) ((((v - (if 0 ≤ (x - z) then x - z else 0 - (x - z))).toInt - (0 : Int32).toInt).toNat) + 1) (0 : Int32) r8.2 r8.1);
    (r9.1, r9.2))
  else let r4 := (lp_Prod_times (v_q - v_p) 1 ((((1 : Int32).toInt - (0 : Int32).toInt).toNat) + 1) (0 : Int32) (upd product_f_digits (0 : Int32).toNatClampNeg 1) 1);
  let r5 := (lp_Prod_times v_p (if 0 ≤ (x - z) then x - z else 0 - (x - z)) ((((if 0 ≤ (x - z) then x - z else 0 - (x - z)).toInt - (0 : Int32).toInt).toNat) + 1) (0 : Int32) r4.2 r4.1);
  let r6 := (lp_Prod_times v_q (v - (if 0 ≤ (x - z) then x - z else 0 - (x - z))) ((((v - (if 0 ≤ (x - z) then x - z else 0 - (x - z))).toInt - (0 : Int32).toInt).toNat) + 1) (0 : Int32) r5.2 r5.1);
  (r6.1, r6.2)
def s_PQ_share (v_p : Int32) (v_q : Int32) (written_f_signs : Nat → Int32) (written__size : Int32) (product_f_digits : Nat → Int32) (product__size : Int32) (x : Int32) (z : Int32) (v : Int32) : Int32 × Int32 × (Nat → Int32) × Int32 × (Nat → Int32) :=
  let r1 := (s_PQ_isUpTo v 30);
  if r1 = 0 then ((-102), written__size, written_f_signs, product__size, product_f_digits)
  else let r2 := (s_PQ_isUpTo x v);
  if r2 = 0 then ((-102), written__size, written_f_signs, product__size, product_f_digits)
  else let r3 := (s_PQ_isUpTo z v);
  if r3 = 0 then ((-102), written__size, written_f_signs, product__size, product_f_digits)
  else let r4 := (s_PQ_workOutShare v_p v_q product_f_digits x z v);
  let r5 := (lp_Prod_writeInto r4.2 (((((if 96 < r4.1 then 96 else r4.1) - 1).toInt + 1).toNat) + 1) ((if 96 < r4.1 then 96 else r4.1) - 1) written_f_signs 0);
  (r5.1, r5.1, r5.2, r4.1, r4.2)
def ok_PQ_share (v_p : Int32) (v_q : Int32) (written_f_signs : Nat → Int32) (product_f_digits : Nat → Int32) (x : Int32) (z : Int32) (v : Int32) : Prop :=
  let r1 := (s_PQ_isUpTo v 30);
  if r1 = 0 then (True)
  else (let r2 := (s_PQ_isUpTo x v);
  if r2 = 0 then (True)
  else (let r3 := (s_PQ_isUpTo z v);
  if r3 = 0 then (True)
  else (let r4 := (s_PQ_workOutShare v_p v_q product_f_digits x z v);
  let r5 := (lp_Prod_writeInto r4.2 (((((if 96 < r4.1 then 96 else r4.1) - 1).toInt + 1).toNat) + 1) ((if 96 < r4.1 then 96 else r4.1) - 1) written_f_signs 0);
  (up 0 4000) ∧ ((up r4.1 96) ∧ (True)))))
def qfs (F : Nat → Int32) : List Value := [.int (F 0), .int (F 1), .int (F 2), .int (F 3), .int (F 4), .int (F 5), .int (F 6), .int (F 7)]
def qcell (qa : Nat → Nat) (Q : Nat → Nat → Int32) (j : Nat) : Nat × va_E := (qa j, .inr (9, qfs (Q j)))
def qcells (qa : Nat → Nat) (Q : Nat → Nat → Int32) : va_W := (List.range 12).map (qcell qa Q)
def qrest (qa : Nat → Nat) (Q : Nat → Nat → Int32) (J : Nat) : va_W := ((List.range 12).filter (fun j => decide (j ≠ J))).map (qcell qa Q)
def updQ (Q : Nat → Nat → Int32) (J : Nat) (F : Nat → Int32) : Nat → Nat → Int32 := fun j => if j = J then F else Q j
def qF (a b c d e f g h : Int32) : Nat → Int32 := fun k => match k with
  | 0 => a
  | 1 => b
  | 2 => c
  | 3 => d
  | 4 => e
  | 5 => f
  | 6 => g
  | _ => h
/-- the place of question i: the nearest of 0 .. 11 -/
def s_qj (x : Int32) : Nat := (if (0 : Int32) < (if (12 - 1 : Int32) < x then (12 - 1 : Int32) else x) then (if (12 - 1 : Int32) < x then (12 - 1 : Int32) else x) else 0).toNatClampNeg
def s_Qu_enter (v_sort : Int32) (v_low : Int32) (v_high : Int32) (nuf : Nat → Int32) (x : Int32) (z : Int32) : (Nat → Int32) :=
  if v_sort = 1 then (let r1 := (s_PQ_nearest x v_low v_high);
    if z < 0 then nuf
    else if 240 ≤ z then nuf
    else (upd nuf z.toNatClampNeg ((nuf z.toNatClampNeg) + r1)))
  else if v_sort = 2 then (if x < v_low then nuf
    else if x ≤ v_high then (if ((z + x) - v_low) < 0 then nuf
      else if 240 ≤ ((z + x) - v_low) then nuf
      else (upd nuf ((z + x) - v_low).toNatClampNeg ((nuf ((z + x) - v_low).toNatClampNeg) + 1)))
    else nuf)
  else if z < 0 then nuf
  else if 240 ≤ z then nuf
  else (upd nuf z.toNatClampNeg ((nuf z.toNatClampNeg) + 1))
def s_Qu_divide (v_sort : Int32) (v_by : Int32) (nuf : Nat → Int32) (x : Int32) : (Nat → Int32) :=
  if v_sort = 1 then (if v_by ≤ 1 then nuf
    else if x < 0 then nuf
    else if 240 ≤ x then nuf
    else (upd nuf x.toNatClampNeg ((nuf x.toNatClampNeg) / v_by)))
  else nuf
def ok_Qu_divide (v_sort : Int32) (v_by : Int32) (x : Int32) : Prop :=
  if v_sort = 1 then (if v_by ≤ 1 then (True)
    else (if x < 0 then (True)
    else (if 240 ≤ x then (True)
    else ((¬ v_by = 0) ∧ (True)))))
  else (True)
def s_Scr_addLet (conditions__size : Int32) (f_letStarts : Nat → Int32) (f_letEnds : Nat → Int32) (f_letOfLetter : Nat → Int32) (v_lets : Int32) (x : Int32) (z : Int32) : Int32 × (Nat → Int32) × (Nat → Int32) × (Nat → Int32) :=
  if 10 ≤ v_lets then (v_lets, f_letStarts, f_letEnds, f_letOfLetter)
  else if x < 0 then (v_lets, f_letStarts, f_letEnds, f_letOfLetter)
  else if x < 26 then (v_lets + 1, upd f_letStarts v_lets.toNatClampNeg z, upd f_letEnds v_lets.toNatClampNeg conditions__size, upd f_letOfLetter x.toNatClampNeg v_lets)
  else (v_lets, f_letStarts, f_letEnds, f_letOfLetter)
def ok_Scr_addLet (v_lets : Int32) (x : Int32) : Prop :=
  if 10 ≤ v_lets then (True)
  else (if x < 0 then (True)
  else (if x < 26 then ((vp_in v_lets 10) ∧ ((vp_in v_lets 10) ∧ (True)))
  else (True)))
def lp_Scr_all_4 (Q : Nat → Nat → Int32) (v_asked : Int32) (x : Int32) : Nat → Int32 → Int32 → Int32
  | 0, _, _ => 0
  | n + 1, i2, i3 =>
    if v_asked ≤ i3 then i2
    else let r1 := (s_Qu_part (Q (s_qj i3) 0) (Q (s_qj i3) 2) (Q (s_qj i3) 3) (Q (s_qj i3) 4) (Q (s_qj i3) 5) x);
    (lp_Scr_all_4 Q v_asked x n (i2 + r1) (i3 + 1))
def oklp_Scr_all_4 (Q : Nat → Nat → Int32) (v_asked : Int32) (x : Int32) : Nat → Int32 → Int32 → Prop
  | 0, _, _ => False
  | n + 1, i2, i3 =>
    if v_asked ≤ i3 then (True)
    else (let r1 := (s_Qu_part (Q (s_qj i3) 0) (Q (s_qj i3) 2) (Q (s_qj i3) 3) (Q (s_qj i3) 4) (Q (s_qj i3) 5) x);
    (oklp_Scr_all_4 Q v_asked x n (i2 + r1) (i3 + 1)))
def ok_Scr_all (Q : Nat → Nat → Int32) (v_asked : Int32) (x : Int32) : Prop :=
  (oklp_Scr_all_4 Q v_asked x 13 (0 : Int32) (0 : Int32))
def lp_Scr_settleLets_2 (conditions_f_steps : Nat → Int32) (conditions_f_values : Nat → Int32) (f_letStarts : Nat → Int32) (f_letEnds : Nat → Int32) (v_lets : Int32) (tb_f_numbers : Nat → Int32) (row : Int32) : Nat → Int32 → Int32 → (Nat → Int32) → (Nat → Int32) → Int32 × (Nat → Int32) × (Nat → Int32)
  | 0, _, _, _, _ => (0, (fun _ => 0), (fun _ => 0))
  | n + 1, i3, c4_conditions_h, g_conditions_a_stack, g_conditions_a_holding =>
    if v_lets ≤ i3 then (c4_conditions_h, g_conditions_a_stack, g_conditions_a_holding)
    else if 10 ≤ i3 then (c4_conditions_h, g_conditions_a_stack, g_conditions_a_holding)
    else if 10 ≤ i3 then (c4_conditions_h, g_conditions_a_stack, g_conditions_a_holding)
    else let r1 := (s_Cond_hold conditions_f_steps conditions_f_values g_conditions_a_stack c4_conditions_h g_conditions_a_holding tb_f_numbers (f_letStarts i3.toNatClampNeg) (f_letEnds i3.toNatClampNeg) row);
    let r2 := (s_Cond_settle g_conditions_a_holding i3 r1.1);
    (lp_Scr_settleLets_2 conditions_f_steps conditions_f_values f_letStarts f_letEnds v_lets tb_f_numbers row n (i3 + 1) r1.2.1 r1.2.2 r2)
def oklp_Scr_settleLets_2 (conditions_f_steps : Nat → Int32) (conditions_f_values : Nat → Int32) (f_letStarts : Nat → Int32) (f_letEnds : Nat → Int32) (v_lets : Int32) (tb_f_numbers : Nat → Int32) (row : Int32) : Nat → Int32 → Int32 → (Nat → Int32) → (Nat → Int32) → Prop
  | 0, _, _, _, _ => False
  | n + 1, i3, c4_conditions_h, g_conditions_a_stack, g_conditions_a_holding =>
    if v_lets ≤ i3 then (True)
    else (if 10 ≤ i3 then (True)
    else (if 10 ≤ i3 then (True)
    else ((vp_in i3 10) ∧ ((vp_in i3 10) ∧ (let r1 := (s_Cond_hold conditions_f_steps conditions_f_values g_conditions_a_stack c4_conditions_h g_conditions_a_holding tb_f_numbers (f_letStarts i3.toNatClampNeg) (f_letEnds i3.toNatClampNeg) row);
    let r2 := (s_Cond_settle g_conditions_a_holding i3 r1.1);
    (oklp_Scr_settleLets_2 conditions_f_steps conditions_f_values f_letStarts f_letEnds v_lets tb_f_numbers row n (i3 + 1) r1.2.1 r1.2.2 r2))))))
def ok_Scr_settleLets (conditions_f_steps : Nat → Int32) (conditions_f_values : Nat → Int32) (conditions_f_stack : Nat → Int32) (conditions__height : Int32) (conditions_f_holding : Nat → Int32) (f_letStarts : Nat → Int32) (f_letEnds : Nat → Int32) (v_lets : Int32) (tb_f_numbers : Nat → Int32) (row : Int32) : Prop :=
  (oklp_Scr_settleLets_2 conditions_f_steps conditions_f_values f_letStarts f_letEnds v_lets tb_f_numbers row 11 (0 : Int32) conditions__height conditions_f_stack conditions_f_holding)
def lp_Scr_enterRow_6 (conditions_f_steps : Nat → Int32) (conditions_f_values : Nat → Int32) (conditions_f_holding : Nat → Int32) (Q : Nat → Nat → Int32) (v_asked : Int32) (tb_f_numbers : Nat → Int32) (row : Int32) : Nat → Int32 → Int32 → Int32 → (Nat → Int32) → (Nat → Int32) → Int32 × (Nat → Int32) × (Nat → Int32)
  | 0, _, _, _, _, _ => (0, (fun _ => 0), (fun _ => 0))
  | n + 1, i4, i5, c4_conditions_h, g_conditions_a_stack, g_nua =>
    if v_asked ≤ i5 then (c4_conditions_h, g_conditions_a_stack, g_nua)
    else let r1 := (s_Cond_hold conditions_f_steps conditions_f_values g_conditions_a_stack c4_conditions_h conditions_f_holding tb_f_numbers (Q (s_qj i5) 6) (Q (s_qj i5) 7) row);
    if r1.1 = 0 then (let r2 := (s_Qu_numbers (Q (s_qj i5) 0) (Q (s_qj i5) 2) (Q (s_qj i5) 3));
      (lp_Scr_enterRow_6 conditions_f_steps conditions_f_values conditions_f_holding Q v_asked tb_f_numbers row n (i4 + r2) (i5 + 1) r1.2.1 r1.2.2 g_nua))
    else let r3 := (s_Tab_at tb_f_numbers row (Q (s_qj i5) 1));
    let r4 := (s_Qu_enter (Q (s_qj i5) 0) (Q (s_qj i5) 2) (Q (s_qj i5) 3) g_nua r3 i4);
    let r5 := (s_Qu_numbers (Q (s_qj i5) 0) (Q (s_qj i5) 2) (Q (s_qj i5) 3));
    (lp_Scr_enterRow_6 conditions_f_steps conditions_f_values conditions_f_holding Q v_asked tb_f_numbers row n (i4 + r5) (i5 + 1) r1.2.1 r1.2.2 r4)
def oklp_Scr_enterRow_6 (conditions_f_steps : Nat → Int32) (conditions_f_values : Nat → Int32) (conditions_f_holding : Nat → Int32) (Q : Nat → Nat → Int32) (v_asked : Int32) (tb_f_numbers : Nat → Int32) (row : Int32) : Nat → Int32 → Int32 → Int32 → (Nat → Int32) → (Nat → Int32) → Prop
  | 0, _, _, _, _, _ => False
  | n + 1, i4, i5, c4_conditions_h, g_conditions_a_stack, g_nua =>
    if v_asked ≤ i5 then (True)
    else (let r1 := (s_Cond_hold conditions_f_steps conditions_f_values g_conditions_a_stack c4_conditions_h conditions_f_holding tb_f_numbers (Q (s_qj i5) 6) (Q (s_qj i5) 7) row);
    if r1.1 = 0 then (let r2 := (s_Qu_numbers (Q (s_qj i5) 0) (Q (s_qj i5) 2) (Q (s_qj i5) 3));
      (oklp_Scr_enterRow_6 conditions_f_steps conditions_f_values conditions_f_holding Q v_asked tb_f_numbers row n (i4 + r2) (i5 + 1) r1.2.1 r1.2.2 g_nua))
    else (let r3 := (s_Tab_at tb_f_numbers row (Q (s_qj i5) 1));
    let r4 := (s_Qu_enter (Q (s_qj i5) 0) (Q (s_qj i5) 2) (Q (s_qj i5) 3) g_nua r3 i4);
    let r5 := (s_Qu_numbers (Q (s_qj i5) 0) (Q (s_qj i5) 2) (Q (s_qj i5) 3));
    (oklp_Scr_enterRow_6 conditions_f_steps conditions_f_values conditions_f_holding Q v_asked tb_f_numbers row n (i4 + r5) (i5 + 1) r1.2.1 r1.2.2 r4)))
def ok_Scr_enterRow (conditions_f_steps : Nat → Int32) (conditions_f_values : Nat → Int32) (conditions_f_stack : Nat → Int32) (conditions__height : Int32) (conditions_f_holding : Nat → Int32) (Q : Nat → Nat → Int32) (v_asked : Int32) (tb_f_numbers : Nat → Int32) (nuf : Nat → Int32) (row : Int32) : Prop :=
  (oklp_Scr_enterRow_6 conditions_f_steps conditions_f_values conditions_f_holding Q v_asked tb_f_numbers row 13 (0 : Int32) (0 : Int32) conditions__height conditions_f_stack nuf)
abbrev R_Str : String := "java/lang/String"
abbrev b_Str_length : ByteArray := prog_16_method_54_code
def y_Str_length : MethodName := ⟨R_Str, "length", "()I"⟩
def w_Str_length : List Cond := .code y_Str_length b_Str_length 1 (some (.int)) :: wG
abbrev b_Str_charAt : ByteArray := prog_16_method_56_code
def y_Str_charAt : MethodName := ⟨R_Str, "charAt", "(I)C"⟩
def w_Str_charAt : List Cond := .code y_Str_charAt b_Str_charAt 2 (some (.char)) :: wG
abbrev b_Str_coder : ByteArray := prog_16_method_152_code
def y_Str_coder : MethodName := ⟨R_Str, "coder", "()B"⟩
def w_Str_coder : List Cond := .code y_Str_coder b_Str_coder 1 (some (.byte)) :: wG
abbrev b_Str_isLatin1 : ByteArray := prog_16_method_154_code
def y_Str_isLatin1 : MethodName := ⟨R_Str, "isLatin1", "()Z"⟩
def w_Str_isLatin1 : List Cond := .code y_Str_isLatin1 b_Str_isLatin1 1 (some (.boolean)) :: wG
abbrev b_Str_checkIndex : ByteArray := prog_16_method_155_code
def y_Str_checkIndex : MethodName := ⟨R_Str, "checkIndex", "(II)V"⟩
def w_Str_checkIndex : List Cond := .code y_Str_checkIndex b_Str_checkIndex 2 none :: wG
abbrev R_Lat : String := "java/lang/StringLatin1"
abbrev b_Lat_charAt : ByteArray := prog_17_method_2_code
def y_Lat_charAt : MethodName := ⟨R_Lat, "charAt", "([BI)C"⟩
def w_Lat_charAt : List Cond := .code y_Lat_charAt b_Lat_charAt 2 (some (.char)) :: wG
abbrev R_Prec : String := "jdk/internal/util/Preconditions"
abbrev b_Prec_checkIndex : ByteArray := prog_21_method_11_code
def y_Prec_checkIndex : MethodName := ⟨R_Prec, "checkIndex", "(IILjava/util/function/BiFunction;)I"⟩
def w_Prec_checkIndex : List Cond := .code y_Prec_checkIndex b_Prec_checkIndex 3 (some (.int)) :: wG
abbrev R_Arr : String := "java/util/Arrays"
abbrev b_Arr_fill : ByteArray := prog_20_method_103_code
def y_Arr_fill : MethodName := ⟨R_Arr, "fill", "([II)V"⟩
def w_Arr_fill : List Cond := .code y_Arr_fill b_Arr_fill 4 none :: wG
def s_Str_length (k : Nat) : Int32 :=
  ((Int32.ofNat (lenS.getD k 0)) >>> ((0 : Int32) &&& 31))
def s_Lat_charAt (k : Nat) (x : Int32) : Int32 :=
  (((((bytS.getD k []).getD x.toNatClampNeg 0) &&& 255).toUInt32 % 65536).toInt32)
def s_Str_charAt (k : Nat) (x : Int32) : Int32 :=
  let r1 := (s_Lat_charAt k x);
  r1
def lp_Arr_fill26_5 (x : Int32) : Nat → Int32 → (Nat → Int32) → (Nat → Int32)
  | 0, _, _ => (fun _ => 0)
  | n + 1, i2, g_aa =>
    if 26 ≤ i2 then g_aa
    else (lp_Arr_fill26_5 x n (i2 + 1) (upd g_aa i2.toNatClampNeg x))
def oklp_Arr_fill26_5 (x : Int32) : Nat → Int32 → (Nat → Int32) → Prop
  | 0, _, _ => False
  | n + 1, i2, g_aa =>
    if 26 ≤ i2 then (True)
    else ((vp_in i2 26) ∧ ((oklp_Arr_fill26_5 x n (i2 + 1) (upd g_aa i2.toNatClampNeg x))))
def ok_Arr_fill26 (af : Nat → Int32) (x : Int32) : Prop :=
  (oklp_Arr_fill26_5 x 27 (0 : Int32) af)
def lp_Arr_fill240_5 (x : Int32) : Nat → Int32 → (Nat → Int32) → (Nat → Int32)
  | 0, _, _ => (fun _ => 0)
  | n + 1, i2, g_aa =>
    if 240 ≤ i2 then g_aa
    else (lp_Arr_fill240_5 x n (i2 + 1) (upd g_aa i2.toNatClampNeg x))
def oklp_Arr_fill240_5 (x : Int32) : Nat → Int32 → (Nat → Int32) → Prop
  | 0, _, _ => False
  | n + 1, i2, g_aa =>
    if 240 ≤ i2 then (True)
    else ((vp_in i2 240) ∧ ((oklp_Arr_fill240_5 x n (i2 + 1) (upd g_aa i2.toNatClampNeg x))))
def ok_Arr_fill240 (af : Nat → Int32) (x : Int32) : Prop :=
  (oklp_Arr_fill240_5 x 241 (0 : Int32) af)
def lp_Text_spells_2 (f_signs : Nat → Int32) (v_size : Int32) (k : Nat) (x : Int32) : Nat → Int32 → Int32
  | 0, _ => 0
  | n + 1, i3 =>
    let r1 := (s_Str_length k);
    if r1 ≤ i3 then 1
    else let r2 := (s_Text_at f_signs v_size (x + i3));
    let r3 := (s_Str_charAt k i3);
    if r2 = r3 then (lp_Text_spells_2 f_signs v_size k x n (i3 + 1))
    else 0
def oklp_Text_spells_2 (f_signs : Nat → Int32) (v_size : Int32) (k : Nat) (x : Int32) : Nat → Int32 → Prop
  | 0, _ => False
  | n + 1, i3 =>
    let r1 := (s_Str_length k);
    if r1 ≤ i3 then (True)
    else (let r2 := (s_Text_at f_signs v_size (x + i3));
    (up v_size 2000) ∧ ((chF f_signs) ∧ (let r3 := (s_Str_charAt k i3);
    (vp_in i3 (lenS.getD k 0)) ∧ (if r2 = r3 then ((oklp_Text_spells_2 f_signs v_size k x n (i3 + 1)))
    else (True)))))
def ok_Text_spells (f_signs : Nat → Int32) (v_size : Int32) (k : Nat) (x : Int32) : Prop :=
  (oklp_Text_spells_2 f_signs v_size k x 8 (0 : Int32))
def lp_Out_addWord_2 (k : Nat) : Nat → Int32 → Int32 → (Nat → Int32) → Int32 × (Nat → Int32)
  | 0, _, _, _ => (0, (fun _ => 0))
  | n + 1, i2, c1_h, g_a_signs =>
    let r1 := (s_Str_length k);
    if r1 ≤ i2 then (c1_h, g_a_signs)
    else let r2 := (s_Str_charAt k i2);
    let r3 := (s_Out_add g_a_signs c1_h r2);
    (lp_Out_addWord_2 k n (i2 + 1) r3.1 r3.2)
def oklp_Out_addWord_2 (k : Nat) : Nat → Int32 → Int32 → (Nat → Int32) → Prop
  | 0, _, _, _ => False
  | n + 1, i2, c1_h, g_a_signs =>
    let r1 := (s_Str_length k);
    if r1 ≤ i2 then (True)
    else (let r2 := (s_Str_charAt k i2);
    (vp_in i2 (lenS.getD k 0)) ∧ (let r3 := (s_Out_add g_a_signs c1_h r2);
    (up c1_h 4000) ∧ ((oklp_Out_addWord_2 k n (i2 + 1) r3.1 r3.2))))
def ok_Out_addWord (f_signs : Nat → Int32) (v_size : Int32) (k : Nat) : Prop :=
  (oklp_Out_addWord_2 k 8 (0 : Int32) v_size f_signs)
def s_Tok_spelling (x : Int32) : Nat :=
  if x = 5 then 0
  else if x = 6 then 1
  else if x = 7 then 2
  else if x = 8 then 3
  else if x = 9 then 4
  else if x = 10 then 5
  else if x = 11 then 6
  else if x = 12 then 7
  else if x = 13 then 8
  else if x = 14 then 9
  else if x = 15 then 10
  else if x = 16 then 11
  else if x = 17 then 12
  else if x = 18 then 13
  else if x = 19 then 14
  else if x = 20 then 15
  else if x = 21 then 16
  else if x = 22 then 17
  else if x = 23 then 18
  else if x = 24 then 19
  else if x = 25 then 20
  else if x = 26 then 21
  else if x = 27 then 22
  else if x = 28 then 23
  else if x = 29 then 24
  else if x = 30 then 25
  else 26
def lp_Tok_cutNumber_5 (f_kinds : Nat → Int32) (f_values : Nat → Int32) (f_places : Nat → Int32) (v_size : Int32) (tx_f_signs : Nat → Int32) (tx__size : Int32) (x : Int32) : Nat → Int64 → Int32 → Int32 × (Nat → Int32) × (Nat → Int32) × (Nat → Int32)
  | 0, _, _ => (0, (fun _ => 0), (fun _ => 0), (fun _ => 0))
  | n + 1, i3, i5 =>
    if 2000 ≤ i5 then (let r1 := (s_Tok_put f_kinds f_values f_places v_size 2 i3.toInt32 x);
      (i5, r1.1, r1.2.1, r1.2.2))
    else let r2 := (s_Text_isDigit tx_f_signs tx__size (x + i5));
    if r2 = 0 then (let r3 := (s_Tok_put f_kinds f_values f_places v_size 2 i3.toInt32 x);
      (i5, r3.1, r3.2.1, r3.2.2))
    else let r4 := (s_Text_at tx_f_signs tx__size (x + i5));
    if (lg_cmp (((i3 * 10) + r4.toInt64) - 48) 2147483647) ≤ 0 then (lp_Tok_cutNumber_5 f_kinds f_values f_places v_size tx_f_signs tx__size x n (((i3 * 10) + r4.toInt64) - 48) (i5 + 1))
    else (0, f_kinds, f_values, f_places)
def oklp_Tok_cutNumber_5 (f_kinds : Nat → Int32) (f_values : Nat → Int32) (f_places : Nat → Int32) (v_size : Int32) (tx_f_signs : Nat → Int32) (tx__size : Int32) (x : Int32) : Nat → Int64 → Int32 → Prop
  | 0, _, _ => False
  | n + 1, i3, i5 =>
    if 2000 ≤ i5 then (let r1 := (s_Tok_put f_kinds f_values f_places v_size 2 i3.toInt32 x);
      (up v_size 2001) ∧ (True))
    else (let r2 := (s_Text_isDigit tx_f_signs tx__size (x + i5));
    (up tx__size 2000) ∧ ((chF tx_f_signs) ∧ (if r2 = 0 then (let r3 := (s_Tok_put f_kinds f_values f_places v_size 2 i3.toInt32 x);
      (up v_size 2001) ∧ (True))
    else (let r4 := (s_Text_at tx_f_signs tx__size (x + i5));
    (up tx__size 2000) ∧ ((chF tx_f_signs) ∧ (if (lg_cmp (((i3 * 10) + r4.toInt64) - 48) 2147483647) ≤ 0 then ((oklp_Tok_cutNumber_5 f_kinds f_values f_places v_size tx_f_signs tx__size x n (((i3 * 10) + r4.toInt64) - 48) (i5 + 1)))
    else (True)))))))
def ok_Tok_cutNumber (f_kinds : Nat → Int32) (f_values : Nat → Int32) (f_places : Nat → Int32) (v_size : Int32) (tx_f_signs : Nat → Int32) (tx__size : Int32) (x : Int32) : Prop :=
  (oklp_Tok_cutNumber_5 f_kinds f_values f_places v_size tx_f_signs tx__size x 2001 0 (0 : Int32))
def lp_Tok_cutWord_2 (tx_f_signs : Nat → Int32) (tx__size : Int32) (x : Int32) : Nat → Int32 → Int32
  | 0, i3 => i3
  | n + 1, i3 =>
    if 2000 ≤ i3 then i3
    else let r1 := (s_Text_isLetter tx_f_signs tx__size (x + i3));
    if r1 = 0 then i3
    else (lp_Tok_cutWord_2 tx_f_signs tx__size x n (i3 + 1))
def oklp_Tok_cutWord_2 (tx_f_signs : Nat → Int32) (tx__size : Int32) (x : Int32) : Nat → Int32 → Prop
  | 0, _ => False
  | n + 1, i3 =>
    if 2000 ≤ i3 then (True)
    else (let r1 := (s_Text_isLetter tx_f_signs tx__size (x + i3));
    (up tx__size 2000) ∧ ((chF tx_f_signs) ∧ (if r1 = 0 then (True)
    else ((oklp_Tok_cutWord_2 tx_f_signs tx__size x n (i3 + 1))))))
def lp_Tok_cutWord_64 (f_kinds : Nat → Int32) (f_values : Nat → Int32) (f_places : Nat → Int32) (v_size : Int32) (tx_f_signs : Nat → Int32) (tx__size : Int32) (x : Int32) : Nat → Int32 → Int32 → Int32 × (Nat → Int32) × (Nat → Int32) × (Nat → Int32)
  | 0, _, _ => (0, (fun _ => 0), (fun _ => 0), (fun _ => 0))
  | n + 1, u3, i4 =>
    if 16 < i4 then (0, f_kinds, f_values, f_places)
    else let r1 := (s_Tok_spelling i4);
    let r2 := (s_Str_length r1);
    if r2 = u3 then (let r3 := (lp_Text_spells_2 tx_f_signs tx__size r1 x 8 (0 : Int32));
      if r3 = 0 then (lp_Tok_cutWord_64 f_kinds f_values f_places v_size tx_f_signs tx__size x n u3 (i4 + 1))
      else let r4 := (s_Tok_put f_kinds f_values f_places v_size i4 0 x);
      (u3, r4.1, r4.2.1, r4.2.2))
    else (lp_Tok_cutWord_64 f_kinds f_values f_places v_size tx_f_signs tx__size x n u3 (i4 + 1))
def oklp_Tok_cutWord_64 (f_kinds : Nat → Int32) (f_values : Nat → Int32) (f_places : Nat → Int32) (v_size : Int32) (tx_f_signs : Nat → Int32) (tx__size : Int32) (x : Int32) : Nat → Int32 → Int32 → Prop
  | 0, _, _ => False
  | n + 1, u3, i4 =>
    if 16 < i4 then (True)
    else (let r1 := (s_Tok_spelling i4);
    let r2 := (s_Str_length r1);
    if r2 = u3 then (let r3 := (lp_Text_spells_2 tx_f_signs tx__size r1 x 8 (0 : Int32));
      (ok_Text_spells tx_f_signs tx__size r1 x) ∧ (if r3 = 0 then ((oklp_Tok_cutWord_64 f_kinds f_values f_places v_size tx_f_signs tx__size x n u3 (i4 + 1)))
      else (let r4 := (s_Tok_put f_kinds f_values f_places v_size i4 0 x);
      (up v_size 2001) ∧ (True))))
    else ((oklp_Tok_cutWord_64 f_kinds f_values f_places v_size tx_f_signs tx__size x n u3 (i4 + 1))))
def s_Tok_cutWord (f_kinds : Nat → Int32) (f_values : Nat → Int32) (f_places : Nat → Int32) (v_size : Int32) (tx_f_signs : Nat → Int32) (tx__size : Int32) (x : Int32) : Int32 × (Nat → Int32) × (Nat → Int32) × (Nat → Int32) :=
  let r1 := (lp_Tok_cutWord_2 tx_f_signs tx__size x 2001 (1 : Int32));
  if r1 = 1 then (let r2 := (s_Text_at tx_f_signs tx__size x);
    if 6 ≤ (r2 - 97) then (let r3 := (s_Tok_put f_kinds f_values f_places v_size 4 (r2 - 97) x);
      (1, r3.1, r3.2.1, r3.2.2))
    else let r4 := (s_Tok_put f_kinds f_values f_places v_size 3 (r2 - 97) x);
    (1, r4.1, r4.2.1, r4.2.2))
  else (lp_Tok_cutWord_64 f_kinds f_values f_places v_size tx_f_signs tx__size x 13 r1 (5 : Int32))
def ok_Tok_cutWord (f_kinds : Nat → Int32) (f_values : Nat → Int32) (f_places : Nat → Int32) (v_size : Int32) (tx_f_signs : Nat → Int32) (tx__size : Int32) (x : Int32) : Prop :=
  ((oklp_Tok_cutWord_2 tx_f_signs tx__size x 2001 (1 : Int32))) ∧ (let r1 := (lp_Tok_cutWord_2 tx_f_signs tx__size x 2001 (1 : Int32));
  if r1 = 1 then (let r2 := (s_Text_at tx_f_signs tx__size x);
    (up tx__size 2000) ∧ ((chF tx_f_signs) ∧ (if 6 ≤ (r2 - 97) then (let r3 := (s_Tok_put f_kinds f_values f_places v_size 4 (r2 - 97) x);
      (up v_size 2001) ∧ (True))
    else (let r4 := (s_Tok_put f_kinds f_values f_places v_size 3 (r2 - 97) x);
    (up v_size 2001) ∧ (True)))))
  else ((oklp_Tok_cutWord_64 f_kinds f_values f_places v_size tx_f_signs tx__size x 13 r1 (5 : Int32))))
def lp_Tok_cutSign_3 (f_kinds : Nat → Int32) (f_values : Nat → Int32) (f_places : Nat → Int32) (v_size : Int32) (tx_f_signs : Nat → Int32) (tx__size : Int32) (x : Int32) : Nat → Int32 → Int32 × (Nat → Int32) × (Nat → Int32) × (Nat → Int32)
  | 0, _ => (0, (fun _ => 0), (fun _ => 0), (fun _ => 0))
  | n + 1, i3 =>
    if 30 < i3 then (0, f_kinds, f_values, f_places)
    else let r1 := (s_Tok_spelling i3);
    let r2 := (lp_Text_spells_2 tx_f_signs tx__size r1 x 8 (0 : Int32));
    if r2 = 0 then (lp_Tok_cutSign_3 f_kinds f_values f_places v_size tx_f_signs tx__size x n (i3 + 1))
    else let r3 := (s_Tok_put f_kinds f_values f_places v_size i3 0 x);
    let r4 := (s_Str_length r1);
    (r4, r3.1, r3.2.1, r3.2.2)
def oklp_Tok_cutSign_3 (f_kinds : Nat → Int32) (f_values : Nat → Int32) (f_places : Nat → Int32) (v_size : Int32) (tx_f_signs : Nat → Int32) (tx__size : Int32) (x : Int32) : Nat → Int32 → Prop
  | 0, _ => False
  | n + 1, i3 =>
    if 30 < i3 then (True)
    else (let r1 := (s_Tok_spelling i3);
    let r2 := (lp_Text_spells_2 tx_f_signs tx__size r1 x 8 (0 : Int32));
    (ok_Text_spells tx_f_signs tx__size r1 x) ∧ (if r2 = 0 then ((oklp_Tok_cutSign_3 f_kinds f_values f_places v_size tx_f_signs tx__size x n (i3 + 1)))
    else (let r3 := (s_Tok_put f_kinds f_values f_places v_size i3 0 x);
    (up v_size 2001) ∧ (let r4 := (s_Str_length r1);
    True))))
def ok_Tok_cutSign (f_kinds : Nat → Int32) (f_values : Nat → Int32) (f_places : Nat → Int32) (v_size : Int32) (tx_f_signs : Nat → Int32) (tx__size : Int32) (x : Int32) : Prop :=
  (oklp_Tok_cutSign_3 f_kinds f_values f_places v_size tx_f_signs tx__size x 15 (17 : Int32))
def s_Tok_cutOne (f_kinds : Nat → Int32) (f_values : Nat → Int32) (f_places : Nat → Int32) (v_size : Int32) (tx_f_signs : Nat → Int32) (tx__size : Int32) (x : Int32) : Int32 × (Nat → Int32) × (Nat → Int32) × (Nat → Int32) :=
  let r1 := (s_Text_isLetter tx_f_signs tx__size x);
  if r1 = 0 then (let r2 := (s_Text_isDigit tx_f_signs tx__size x);
    if r2 = 0 then (let r3 := (lp_Tok_cutSign_3 f_kinds f_values f_places v_size tx_f_signs tx__size x 15 (17 : Int32));
      (r3.1, r3.2.1, r3.2.2.1, r3.2.2.2))
    else let r4 := (lp_Tok_cutNumber_5 f_kinds f_values f_places v_size tx_f_signs tx__size x 2001 0 (0 : Int32));
    (r4.1, r4.2.1, r4.2.2.1, r4.2.2.2))
  else let r5 := (s_Tok_cutWord f_kinds f_values f_places v_size tx_f_signs tx__size x);
  (r5.1, r5.2.1, r5.2.2.1, r5.2.2.2)
def ok_Tok_cutOne (f_kinds : Nat → Int32) (f_values : Nat → Int32) (f_places : Nat → Int32) (v_size : Int32) (tx_f_signs : Nat → Int32) (tx__size : Int32) (x : Int32) : Prop :=
  let r1 := (s_Text_isLetter tx_f_signs tx__size x);
  (up tx__size 2000) ∧ ((chF tx_f_signs) ∧ (if r1 = 0 then (let r2 := (s_Text_isDigit tx_f_signs tx__size x);
    (up tx__size 2000) ∧ ((chF tx_f_signs) ∧ (if r2 = 0 then (let r3 := (lp_Tok_cutSign_3 f_kinds f_values f_places v_size tx_f_signs tx__size x 15 (17 : Int32));
      (ok_Tok_cutSign f_kinds f_values f_places v_size tx_f_signs tx__size x) ∧ (True))
    else (let r4 := (lp_Tok_cutNumber_5 f_kinds f_values f_places v_size tx_f_signs tx__size x 2001 0 (0 : Int32));
    (ok_Tok_cutNumber f_kinds f_values f_places v_size tx_f_signs tx__size x) ∧ (True)))))
  else (let r5 := (s_Tok_cutWord f_kinds f_values f_places v_size tx_f_signs tx__size x);
  (ok_Tok_cutWord f_kinds f_values f_places v_size tx_f_signs tx__size x) ∧ (True))))
def lp_Tok_cut_7 (tx_f_signs : Nat → Int32) (tx__size : Int32) : Nat → Int32 → (Nat → Int32) → (Nat → Int32) → (Nat → Int32) → Int32 → Int32 × (Nat → Int32) × (Nat → Int32) × (Nat → Int32)
  | 0, _, _, _, _, _ => (0, (fun _ => 0), (fun _ => 0), (fun _ => 0))
  | n + 1, i2, g_a_kinds, g_a_values, g_a_places, w3_h =>
    if tx__size ≤ i2 then (let r1 := (s_Tok_put g_a_kinds g_a_values g_a_places w3_h 0 0 tx__size);
      (w3_h, r1.1, r1.2.1, r1.2.2))
    else let r2 := (s_Text_at tx_f_signs tx__size i2);
    if r2 = 32 then (lp_Tok_cut_7 tx_f_signs tx__size n (i2 + 1) g_a_kinds g_a_values g_a_places w3_h)
    else let r3 := (s_Tok_cutOne g_a_kinds g_a_values g_a_places w3_h tx_f_signs tx__size i2);
    if 1 ≤ r3.1 then (lp_Tok_cut_7 tx_f_signs tx__size n (i2 + r3.1) r3.2.1 r3.2.2.1 r3.2.2.2 (w3_h + 1))
    else let r4 := (s_Tok_put r3.2.1 r3.2.2.1 r3.2.2.2 w3_h 1 0 i2);
    (w3_h, r4.1, r4.2.1, r4.2.2)
def oklp_Tok_cut_7 (tx_f_signs : Nat → Int32) (tx__size : Int32) : Nat → Int32 → (Nat → Int32) → (Nat → Int32) → (Nat → Int32) → Int32 → Prop
  | 0, _, _, _, _, _ => False
  | n + 1, i2, g_a_kinds, g_a_values, g_a_places, w3_h =>
    if tx__size ≤ i2 then (let r1 := (s_Tok_put g_a_kinds g_a_values g_a_places w3_h 0 0 tx__size);
      (up w3_h 2001) ∧ (True))
    else (let r2 := (s_Text_at tx_f_signs tx__size i2);
    (up tx__size 2000) ∧ ((chF tx_f_signs) ∧ (if r2 = 32 then ((oklp_Tok_cut_7 tx_f_signs tx__size n (i2 + 1) g_a_kinds g_a_values g_a_places w3_h))
    else (let r3 := (s_Tok_cutOne g_a_kinds g_a_values g_a_places w3_h tx_f_signs tx__size i2);
    (ok_Tok_cutOne g_a_kinds g_a_values g_a_places w3_h tx_f_signs tx__size i2) ∧ (if 1 ≤ r3.1 then ((oklp_Tok_cut_7 tx_f_signs tx__size n (i2 + r3.1) r3.2.1 r3.2.2.1 r3.2.2.2 (w3_h + 1)))
    else (let r4 := (s_Tok_put r3.2.1 r3.2.2.1 r3.2.2.2 w3_h 1 0 i2);
    (up w3_h 2001) ∧ (True)))))))
def ok_Tok_cut (f_kinds : Nat → Int32) (f_values : Nat → Int32) (f_places : Nat → Int32) (tx_f_signs : Nat → Int32) (tx__size : Int32) : Prop :=
  (oklp_Tok_cut_7 tx_f_signs tx__size 2001 (0 : Int32) f_kinds f_values f_places (0 : Int32))
def s_Tok_writeOne (w_f_signs : Nat → Int32) (w__size : Int32) (x : Int32) (z : Int32) : Int32 × (Nat → Int32) :=
  if x = 2 then (let r1 := (lp_Out_addNumber z (((1000000000 : Int32).toInt.toNat) + 1) (1000000000 : Int32) w_f_signs w__size);
    (r1.1, r1.2))
  else if x = 3 then (let r2 := (s_Out_add w_f_signs w__size (((97 + z).toUInt32 % 65536).toInt32));
    (r2.1, r2.2))
  else if x = 4 then (let r3 := (s_Out_add w_f_signs w__size (((97 + z).toUInt32 % 65536).toInt32));
    (r3.1, r3.2))
  else let r4 := (s_Tok_spelling x);
  let r5 := (lp_Out_addWord_2 r4 8 (0 : Int32) w__size w_f_signs);
  (r5.1, r5.2)
def ok_Tok_writeOne (w_f_signs : Nat → Int32) (w__size : Int32) (x : Int32) (z : Int32) : Prop :=
  if x = 2 then (let r1 := (lp_Out_addNumber z (((1000000000 : Int32).toInt.toNat) + 1) (1000000000 : Int32) w_f_signs w__size);
    (up w__size 4000) ∧ (True))
  else (if x = 3 then (let r2 := (s_Out_add w_f_signs w__size (((97 + z).toUInt32 % 65536).toInt32));
    (up w__size 4000) ∧ (True))
  else (if x = 4 then (let r3 := (s_Out_add w_f_signs w__size (((97 + z).toUInt32 % 65536).toInt32));
    (up w__size 4000) ∧ (True))
  else (let r4 := (s_Tok_spelling x);
  let r5 := (lp_Out_addWord_2 r4 8 (0 : Int32) w__size w_f_signs);
  (ok_Out_addWord w_f_signs w__size r4) ∧ (True))))
def lp_Tok_writeInto_2 (f_kinds : Nat → Int32) (f_values : Nat → Int32) (v_size : Int32) : Nat → Int32 → Int32 → (Nat → Int32) → Int32 × (Nat → Int32)
  | 0, _, _, _ => (0, (fun _ => 0))
  | n + 1, i2, c1_w_h, g_w_a_signs =>
    if v_size ≤ i2 then (c1_w_h, g_w_a_signs)
    else let r1 := (s_Tok_isIdle f_kinds f_values i2);
    if r1 = 0 then (let r2 := (s_Tok_isIdle f_kinds f_values (i2 - 1));
      if r2 = 0 then (if i2 ≤ 0 then (let r3 := (s_Tok_kindAt f_kinds i2);
          let r4 := (s_Tok_valueAt f_values i2);
          let r5 := (s_Tok_writeOne g_w_a_signs c1_w_h r3 r4);
          (lp_Tok_writeInto_2 f_kinds f_values v_size n (i2 + 1) r5.1 r5.2))
        else let r6 := (s_Out_add g_w_a_signs c1_w_h 32);
        let r7 := (s_Tok_kindAt f_kinds i2);
        let r8 := (s_Tok_valueAt f_values i2);
        let r9 := (s_Tok_writeOne r6.2 r6.1 r7 r8);
        (lp_Tok_writeInto_2 f_kinds f_values v_size n (i2 + 1) r9.1 r9.2))
      else (lp_Tok_writeInto_2 f_kinds f_values v_size n (i2 + 1) c1_w_h g_w_a_signs))
    else (lp_Tok_writeInto_2 f_kinds f_values v_size n (i2 + 1) c1_w_h g_w_a_signs)
def oklp_Tok_writeInto_2 (f_kinds : Nat → Int32) (f_values : Nat → Int32) (v_size : Int32) : Nat → Int32 → Int32 → (Nat → Int32) → Prop
  | 0, _, _, _ => False
  | n + 1, i2, c1_w_h, g_w_a_signs =>
    if v_size ≤ i2 then (True)
    else (let r1 := (s_Tok_isIdle f_kinds f_values i2);
    if r1 = 0 then (let r2 := (s_Tok_isIdle f_kinds f_values (i2 - 1));
      if r2 = 0 then (if i2 ≤ 0 then (let r3 := (s_Tok_kindAt f_kinds i2);
          let r4 := (s_Tok_valueAt f_values i2);
          let r5 := (s_Tok_writeOne g_w_a_signs c1_w_h r3 r4);
          (ok_Tok_writeOne g_w_a_signs c1_w_h r3 r4) ∧ ((oklp_Tok_writeInto_2 f_kinds f_values v_size n (i2 + 1) r5.1 r5.2)))
        else (let r6 := (s_Out_add g_w_a_signs c1_w_h 32);
        (up c1_w_h 4000) ∧ (let r7 := (s_Tok_kindAt f_kinds i2);
        let r8 := (s_Tok_valueAt f_values i2);
        let r9 := (s_Tok_writeOne r6.2 r6.1 r7 r8);
        (ok_Tok_writeOne r6.2 r6.1 r7 r8) ∧ ((oklp_Tok_writeInto_2 f_kinds f_values v_size n (i2 + 1) r9.1 r9.2)))))
      else ((oklp_Tok_writeInto_2 f_kinds f_values v_size n (i2 + 1) c1_w_h g_w_a_signs)))
    else ((oklp_Tok_writeInto_2 f_kinds f_values v_size n (i2 + 1) c1_w_h g_w_a_signs)))
def ok_Tok_writeInto (f_kinds : Nat → Int32) (f_values : Nat → Int32) (v_size : Int32) (w_f_signs : Nat → Int32) (w__size : Int32) : Prop :=
  (oklp_Tok_writeInto_2 f_kinds f_values v_size 2002 (0 : Int32) w__size w_f_signs)
def setM : List Bool → va_W → va_W → va_W
  | true :: bs, _ :: l, y :: ys => y :: setM bs l ys
  | false :: bs, x :: l, ys => x :: setM bs l ys
  | _, l, _ => l
def idxM : Nat → List Bool → List Nat
  | _, [] => []
  | k, true :: bs => k :: idxM (k + 1) bs
  | k, false :: bs => idxM (k + 1) bs
def fitM : List Bool → va_W → Prop
  | [], _ => True
  | _ :: _, [] => False
  | _ :: bs, _ :: l => fitM bs l
def lp_Scr_work_7 (conditions_f_steps : Nat → Int32) (conditions_f_values : Nat → Int32) (Q : Nat → Nat → Int32) (v_asked : Int32) (f_letStarts : Nat → Int32) (f_letEnds : Nat → Int32) (v_lets : Int32) (tb_f_numbers : Nat → Int32) (tb__rows : Int32) : Nat → Int32 → Int32 → (Nat → Int32) → (Nat → Int32) → (Nat → Int32) → Int32 × Int32 × (Nat → Int32) × (Nat → Int32) × (Nat → Int32)
  | 0, i3, c4_conditions_h, g_conditions_a_stack, g_conditions_a_holding, g_nua => (i3, c4_conditions_h, g_conditions_a_stack, g_conditions_a_holding, g_nua)
  | n + 1, i3, c4_conditions_h, g_conditions_a_stack, g_conditions_a_holding, g_nua =>
    if tb__rows ≤ i3 then (i3, c4_conditions_h, g_conditions_a_stack, g_conditions_a_holding, g_nua)
    else let r1 := (lp_Scr_settleLets_2 conditions_f_steps conditions_f_values f_letStarts f_letEnds v_lets tb_f_numbers i3 11 (0 : Int32) c4_conditions_h g_conditions_a_stack g_conditions_a_holding);
    let r2 := (lp_Scr_enterRow_6 conditions_f_steps conditions_f_values r1.2.2 Q v_asked tb_f_numbers i3 13 (0 : Int32) (0 : Int32) r1.1 r1.2.1 g_nua);
    (lp_Scr_work_7 conditions_f_steps conditions_f_values Q v_asked f_letStarts f_letEnds v_lets tb_f_numbers tb__rows n (i3 + 1) r2.1 r2.2.1 r1.2.2 r2.2.2)
def oklp_Scr_work_7 (conditions_f_steps : Nat → Int32) (conditions_f_values : Nat → Int32) (Q : Nat → Nat → Int32) (v_asked : Int32) (f_letStarts : Nat → Int32) (f_letEnds : Nat → Int32) (v_lets : Int32) (tb_f_numbers : Nat → Int32) (tb__rows : Int32) : Nat → Int32 → Int32 → (Nat → Int32) → (Nat → Int32) → (Nat → Int32) → Prop
  | 0, _, _, _, _, _ => False
  | n + 1, i3, c4_conditions_h, g_conditions_a_stack, g_conditions_a_holding, g_nua =>
    if tb__rows ≤ i3 then (True)
    else (let r1 := (lp_Scr_settleLets_2 conditions_f_steps conditions_f_values f_letStarts f_letEnds v_lets tb_f_numbers i3 11 (0 : Int32) c4_conditions_h g_conditions_a_stack g_conditions_a_holding);
    (ok_Scr_settleLets conditions_f_steps conditions_f_values g_conditions_a_stack c4_conditions_h g_conditions_a_holding f_letStarts f_letEnds v_lets tb_f_numbers i3) ∧ (let r2 := (lp_Scr_enterRow_6 conditions_f_steps conditions_f_values r1.2.2 Q v_asked tb_f_numbers i3 13 (0 : Int32) (0 : Int32) r1.1 r1.2.1 g_nua);
    (ok_Scr_enterRow conditions_f_steps conditions_f_values r1.2.1 r1.1 r1.2.2 Q v_asked tb_f_numbers g_nua i3) ∧ ((oklp_Scr_work_7 conditions_f_steps conditions_f_values Q v_asked f_letStarts f_letEnds v_lets tb_f_numbers tb__rows n (i3 + 1) r2.1 r2.2.1 r1.2.2 r2.2.2))))
def lp_Scr_work_39 (Q : Nat → Nat → Int32) (v_asked : Int32) : Nat → Int32 → Int32 → Int32 → (Nat → Int32) → (Nat → Int32) → (Nat → Int32) → Int32 × (Nat → Int32) × (Nat → Int32) × (Nat → Int32)
  | 0, _, _, _, _, _, _ => (0, (fun _ => 0), (fun _ => 0), (fun _ => 0))
  | n + 1, i3, i4, w4_conditions_h, g_conditions_a_stack, g_conditions_a_holding, g_nua =>
    if v_asked ≤ i4 then (w4_conditions_h, g_conditions_a_stack, g_conditions_a_holding, g_nua)
    else let r1 := (s_Qu_divide (Q (s_qj i4) 0) (Q (s_qj i4) 4) g_nua i3);
    let r2 := (s_Qu_numbers (Q (s_qj i4) 0) (Q (s_qj i4) 2) (Q (s_qj i4) 3));
    (lp_Scr_work_39 Q v_asked n (i3 + r2) (i4 + 1) w4_conditions_h g_conditions_a_stack g_conditions_a_holding r1)
def oklp_Scr_work_39 (Q : Nat → Nat → Int32) (v_asked : Int32) : Nat → Int32 → Int32 → Int32 → (Nat → Int32) → (Nat → Int32) → (Nat → Int32) → Prop
  | 0, _, _, _, _, _, _ => False
  | n + 1, i3, i4, w4_conditions_h, g_conditions_a_stack, g_conditions_a_holding, g_nua =>
    if v_asked ≤ i4 then (True)
    else (let r1 := (s_Qu_divide (Q (s_qj i4) 0) (Q (s_qj i4) 4) g_nua i3);
    (ok_Qu_divide (Q (s_qj i4) 0) (Q (s_qj i4) 4) i3) ∧ (let r2 := (s_Qu_numbers (Q (s_qj i4) 0) (Q (s_qj i4) 2) (Q (s_qj i4) 3));
    (oklp_Scr_work_39 Q v_asked n (i3 + r2) (i4 + 1) w4_conditions_h g_conditions_a_stack g_conditions_a_holding r1)))
def s_Scr_work (conditions_f_steps : Nat → Int32) (conditions_f_values : Nat → Int32) (conditions_f_stack : Nat → Int32) (conditions__height : Int32) (conditions_f_holding : Nat → Int32) (Q : Nat → Nat → Int32) (v_asked : Int32) (f_letStarts : Nat → Int32) (f_letEnds : Nat → Int32) (v_lets : Int32) (tb_f_numbers : Nat → Int32) (tb__rows : Int32) (nuf : Nat → Int32) : Int32 × (Nat → Int32) × (Nat → Int32) × (Nat → Int32) :=
  let r1 := (lp_Arr_fill240_5 0 241 (0 : Int32) nuf);
  let r2 := (lp_Scr_work_7 conditions_f_steps conditions_f_values Q v_asked f_letStarts f_letEnds v_lets tb_f_numbers tb__rows 61 (0 : Int32) conditions__height conditions_f_stack conditions_f_holding r1);
  (lp_Scr_work_39 Q v_asked 13 (0 : Int32) (0 : Int32) r2.2.1 r2.2.2.1 r2.2.2.2.1 r2.2.2.2.2)
def ok_Scr_work (conditions_f_steps : Nat → Int32) (conditions_f_values : Nat → Int32) (conditions_f_stack : Nat → Int32) (conditions__height : Int32) (conditions_f_holding : Nat → Int32) (Q : Nat → Nat → Int32) (v_asked : Int32) (f_letStarts : Nat → Int32) (f_letEnds : Nat → Int32) (v_lets : Int32) (tb_f_numbers : Nat → Int32) (tb__rows : Int32) (nuf : Nat → Int32) : Prop :=
  let r1 := (lp_Arr_fill240_5 0 241 (0 : Int32) nuf);
  (ok_Arr_fill240 nuf 0) ∧ (((oklp_Scr_work_7 conditions_f_steps conditions_f_values Q v_asked f_letStarts f_letEnds v_lets tb_f_numbers tb__rows 61 (0 : Int32) conditions__height conditions_f_stack conditions_f_holding r1)) ∧ (let r2 := (lp_Scr_work_7 conditions_f_steps conditions_f_values Q v_asked f_letStarts f_letEnds v_lets tb_f_numbers tb__rows 61 (0 : Int32) conditions__height conditions_f_stack conditions_f_holding r1);
  (oklp_Scr_work_39 Q v_asked 13 (0 : Int32) (0 : Int32) r2.2.1 r2.2.2.1 r2.2.2.2.1 r2.2.2.2.2)))
def s_Scr_cut (tokens_f_kinds : Nat → Int32) (tokens_f_values : Nat → Int32) (tokens_f_places : Nat → Int32) (f_letOfLetter : Nat → Int32) (tx_f_signs : Nat → Int32) (tx__size : Int32) : Int32 × Int32 × Int32 × (Nat → Int32) × (Nat → Int32) × (Nat → Int32) × Int32 × (Nat → Int32) :=
  let r1 := (lp_Tok_cut_7 tx_f_signs tx__size 2001 (0 : Int32) tokens_f_kinds tokens_f_values tokens_f_places (0 : Int32));
  let r2 := (lp_Arr_fill26_5 (-1) 27 (0 : Int32) f_letOfLetter);
  (0, 0, r1.1, r1.2.1, r1.2.2.1, r1.2.2.2, 0, r2)
def ok_Scr_cut (tokens_f_kinds : Nat → Int32) (tokens_f_values : Nat → Int32) (tokens_f_places : Nat → Int32) (f_letOfLetter : Nat → Int32) (tx_f_signs : Nat → Int32) (tx__size : Int32) : Prop :=
  let r1 := (lp_Tok_cut_7 tx_f_signs tx__size 2001 (0 : Int32) tokens_f_kinds tokens_f_values tokens_f_places (0 : Int32));
  (ok_Tok_cut tokens_f_kinds tokens_f_values tokens_f_places tx_f_signs tx__size) ∧ (let r2 := (lp_Arr_fill26_5 (-1) 27 (0 : Int32) f_letOfLetter);
  (ok_Arr_fill26 f_letOfLetter (-1)) ∧ (True))
def s_Scr_writeInto (tokens_f_kinds : Nat → Int32) (tokens_f_values : Nat → Int32) (tokens__size : Int32) (w_f_signs : Nat → Int32) (w__size : Int32) : Int32 × (Nat → Int32) :=
  let r1 := (lp_Tok_writeInto_2 tokens_f_kinds tokens_f_values tokens__size 2002 (0 : Int32) w__size w_f_signs);
  (r1.1, r1.2)
def ok_Scr_writeInto (tokens_f_kinds : Nat → Int32) (tokens_f_values : Nat → Int32) (tokens__size : Int32) (w_f_signs : Nat → Int32) (w__size : Int32) : Prop :=
  let r1 := (lp_Tok_writeInto_2 tokens_f_kinds tokens_f_values tokens__size 2002 (0 : Int32) w__size w_f_signs);
  (ok_Tok_writeInto tokens_f_kinds tokens_f_values tokens__size w_f_signs w__size) ∧ (True)
def s_PQ_question (script_Q : Nat → Nat → Int32) (script__asked : Int32) (v_hasScript : Int32) (x : Int32) (z : Int32) : Int32 :=
  if v_hasScript = 0 then (-101)
  else if x < 0 then (-101)
  else if x < script__asked then (let r1 := (s_Qu_part (script_Q (s_qj x) 0) (script_Q (s_qj x) 2) (script_Q (s_qj x) 3) (script_Q (s_qj x) 4) (script_Q (s_qj x) 5) z);
    r1)
  else (-101)
def s_PQ_wants (script_Q : Nat → Nat → Int32) (script__asked : Int32) (v_hasScript : Int32) (x : Int32) : Int32 :=
  if x < 0 then (-102)
  else if x ≤ 2 then (if v_hasScript = 0 then (-103)
    else if x = 0 then (let r3 := (lp_Scr_all_4 script_Q script__asked 1 13 (0 : Int32) (0 : Int32));
      r3)
    else if x = 1 then (let r2 := (lp_Scr_all_4 script_Q script__asked 2 13 (0 : Int32) (0 : Int32));
      r2)
    else let r1 := (lp_Scr_all_4 script_Q script__asked 4 13 (0 : Int32) (0 : Int32));
    r1)
  else (-102)
def ok_PQ_wants (script_Q : Nat → Nat → Int32) (script__asked : Int32) (v_hasScript : Int32) (x : Int32) : Prop :=
  if x < 0 then (True)
  else (if x ≤ 2 then (if v_hasScript = 0 then (True)
    else (if x = 0 then (let r3 := (lp_Scr_all_4 script_Q script__asked 1 13 (0 : Int32) (0 : Int32));
      (ok_Scr_all script_Q script__asked 1) ∧ (True))
    else (if x = 1 then (let r2 := (lp_Scr_all_4 script_Q script__asked 2 13 (0 : Int32) (0 : Int32));
      (ok_Scr_all script_Q script__asked 2) ∧ (True))
    else (let r1 := (lp_Scr_all_4 script_Q script__asked 4 13 (0 : Int32) (0 : Int32));
    (ok_Scr_all script_Q script__asked 4) ∧ (True)))))
  else (True))
def lp_PQ_blur_30 (tape__p : Int32) (tape__q : Int32) (tape_f_cells : Nat → Int32) (tape__size : Int32) (script_Q : Nat → Nat → Int32) (i3 : Int32) : Nat → Int32 → Int32 → Int32 → (Nat → Int32) → Int32 × Int32 × Int32 × (Nat → Int32)
  | 0, i1, i2, i5, g_a_toldNumbers => (i1, i2, i5, g_a_toldNumbers)
  | n + 1, i1, i2, i5, g_a_toldNumbers =>
    let r1 := (s_Qu_numbers (script_Q (s_qj i3) 0) (script_Q (s_qj i3) 2) (script_Q (s_qj i3) 3));
    if r1 ≤ i5 then (i1, i2, i5, g_a_toldNumbers)
    else if 240 ≤ i2 then (i1, i2, i5, g_a_toldNumbers)
    else let r2 := (s_PQ_nearest (g_a_toldNumbers i2.toNatClampNeg) 0 (script_Q (s_qj i3) 5));
    let r3 := (s_Tape_blockNoise tape__p tape__q tape_f_cells tape__size i1 (script_Q (s_qj i3) 5));
    let r4 := (s_PQ_nearest (r2 + r3) 0 (script_Q (s_qj i3) 5));
    (lp_PQ_blur_30 tape__p tape__q tape_f_cells tape__size script_Q i3 n (i1 + ((script_Q (s_qj i3) 5) + 1)) (i2 + 1) (i5 + 1) (upd g_a_toldNumbers i2.toNatClampNeg r4))
def oklp_PQ_blur_30 (tape__p : Int32) (tape__q : Int32) (tape_f_cells : Nat → Int32) (tape__size : Int32) (script_Q : Nat → Nat → Int32) (i3 : Int32) : Nat → Int32 → Int32 → Int32 → (Nat → Int32) → Prop
  | 0, _, _, _, _ => False
  | n + 1, i1, i2, i5, g_a_toldNumbers =>
    let r1 := (s_Qu_numbers (script_Q (s_qj i3) 0) (script_Q (s_qj i3) 2) (script_Q (s_qj i3) 3));
    if r1 ≤ i5 then (True)
    else (if 240 ≤ i2 then (True)
    else ((vp_in i2 240) ∧ (let r2 := (s_PQ_nearest (g_a_toldNumbers i2.toNatClampNeg) 0 (script_Q (s_qj i3) 5));
    let r3 := (s_Tape_blockNoise tape__p tape__q tape_f_cells tape__size i1 (script_Q (s_qj i3) 5));
    (up tape__size 3000) ∧ (((script_Q (s_qj i3) 5).toInt ≤ 1000) ∧ (let r4 := (s_PQ_nearest (r2 + r3) 0 (script_Q (s_qj i3) 5));
    (vp_in i2 240) ∧ ((oklp_PQ_blur_30 tape__p tape__q tape_f_cells tape__size script_Q i3 n (i1 + ((script_Q (s_qj i3) 5) + 1)) (i2 + 1) (i5 + 1) (upd g_a_toldNumbers i2.toNatClampNeg r4))))))))
def lp_PQ_blur_6 (tape__p : Int32) (tape__q : Int32) (tape_f_cells : Nat → Int32) (tape__size : Int32) (script_Q : Nat → Nat → Int32) (script__asked : Int32) : Nat → Int32 → Int32 → Int32 → (Nat → Int32) → Int32 × (Nat → Int32)
  | 0, _, _, _, _ => (0, (fun _ => 0))
  | n + 1, i1, i2, i3, g_a_toldNumbers =>
    if script__asked ≤ i3 then (i1, g_a_toldNumbers)
    else let r1 := (lp_PQ_blur_30 tape__p tape__q tape_f_cells tape__size script_Q i3 241 i1 i2 (0 : Int32) g_a_toldNumbers);
    (lp_PQ_blur_6 tape__p tape__q tape_f_cells tape__size script_Q script__asked n r1.1 r1.2.1 (i3 + 1) r1.2.2.2)
def oklp_PQ_blur_6 (tape__p : Int32) (tape__q : Int32) (tape_f_cells : Nat → Int32) (tape__size : Int32) (script_Q : Nat → Nat → Int32) (script__asked : Int32) : Nat → Int32 → Int32 → Int32 → (Nat → Int32) → Prop
  | 0, _, _, _, _ => False
  | n + 1, i1, i2, i3, g_a_toldNumbers =>
    if script__asked ≤ i3 then (True)
    else (((oklp_PQ_blur_30 tape__p tape__q tape_f_cells tape__size script_Q i3 241 i1 i2 (0 : Int32) g_a_toldNumbers)) ∧ (let r1 := (lp_PQ_blur_30 tape__p tape__q tape_f_cells tape__size script_Q i3 241 i1 i2 (0 : Int32) g_a_toldNumbers);
    (oklp_PQ_blur_6 tape__p tape__q tape_f_cells tape__size script_Q script__asked n r1.1 r1.2.1 (i3 + 1) r1.2.2.2)))
def ok_PQ_blur (tape__p : Int32) (tape__q : Int32) (tape_f_cells : Nat → Int32) (tape__size : Int32) (f_toldNumbers : Nat → Int32) (script_Q : Nat → Nat → Int32) (script__asked : Int32) : Prop :=
  (oklp_PQ_blur_6 tape__p tape__q tape_f_cells tape__size script_Q script__asked 13 (0 : Int32) (0 : Int32) (0 : Int32) f_toldNumbers)
def s_PQ_run (table_f_numbers : Nat → Int32) (table__rows : Int32) (tape__p : Int32) (tape__q : Int32) (tape_f_cells : Nat → Int32) (tape__size : Int32) (purses_f_granted : Nat → Int32) (purses_f_spent : Nat → Int32) (f_toldNumbers : Nat → Int32) (v_toldSize : Int32) (script_conditions_f_steps : Nat → Int32) (script_conditions_f_values : Nat → Int32) (script_conditions_f_stack : Nat → Int32) (script_conditions__height : Int32) (script_conditions_f_holding : Nat → Int32) (script_Q : Nat → Nat → Int32) (script__asked : Int32) (script_f_letStarts : Nat → Int32) (script_f_letEnds : Nat → Int32) (script__lets : Int32) (v_hasScript : Int32) (x : Int32) : Int32 × Int32 × Int32 × (Nat → Int32) × (Nat → Int32) × (Nat → Int32) × Int32 × (Nat → Int32) × (Nat → Int32) :=
  let r1 := (s_Pur_isAsker x);
  if r1 = 0 then ((-101), v_toldSize, tape__size, tape_f_cells, purses_f_spent, f_toldNumbers, script_conditions__height, script_conditions_f_stack, script_conditions_f_holding)
  else if v_hasScript = 0 then ((-103), v_toldSize, tape__size, tape_f_cells, purses_f_spent, f_toldNumbers, script_conditions__height, script_conditions_f_stack, script_conditions_f_holding)
  else let r2 := (lp_Scr_all_4 script_Q script__asked 1 13 (0 : Int32) (0 : Int32));
  let r3 := (s_Pur_leftTo purses_f_granted purses_f_spent x);
  if r3 < r2 then ((-104), v_toldSize, tape__size, tape_f_cells, purses_f_spent, f_toldNumbers, script_conditions__height, script_conditions_f_stack, script_conditions_f_holding)
  else let r4 := (s_Pur_leftTo purses_f_granted purses_f_spent 4);
  if r2 ≤ r4 then (let r5 := (lp_Scr_all_4 script_Q script__asked 4 13 (0 : Int32) (0 : Int32));
    if r5 ≤ tape__size then (let r6 := (s_Pur_spend purses_f_spent x r2);
      let r7 := (s_Pur_spend r6 4 r2);
      let r8 := (s_Scr_work script_conditions_f_steps script_conditions_f_values script_conditions_f_stack script_conditions__height script_conditions_f_holding script_Q script__asked script_f_letStarts script_f_letEnds script__lets table_f_numbers table__rows f_toldNumbers);
      let r9 := (lp_Scr_all_4 script_Q script__asked 2 13 (0 : Int32) (0 : Int32));
      let r10 := (lp_PQ_blur_6 tape__p tape__q tape_f_cells tape__size script_Q script__asked 13 (0 : Int32) (0 : Int32) (0 : Int32) r8.2.2.2);
      let r11 := (s_Tape_remove tape_f_cells tape__size r10.1);
      (r9, r9, r11.1, r11.2, r7, r10.2, r8.1, r8.2.1, r8.2.2.1))
    else ((-105), v_toldSize, tape__size, tape_f_cells, purses_f_spent, f_toldNumbers, script_conditions__height, script_conditions_f_stack, script_conditions_f_holding))
  else ((-104), v_toldSize, tape__size, tape_f_cells, purses_f_spent, f_toldNumbers, script_conditions__height, script_conditions_f_stack, script_conditions_f_holding)
def ok_PQ_run (table_f_numbers : Nat → Int32) (table__rows : Int32) (tape__p : Int32) (tape__q : Int32) (tape_f_cells : Nat → Int32) (tape__size : Int32) (purses_f_granted : Nat → Int32) (purses_f_spent : Nat → Int32) (f_toldNumbers : Nat → Int32) (script_conditions_f_steps : Nat → Int32) (script_conditions_f_values : Nat → Int32) (script_conditions_f_stack : Nat → Int32) (script_conditions__height : Int32) (script_conditions_f_holding : Nat → Int32) (script_Q : Nat → Nat → Int32) (script__asked : Int32) (script_f_letStarts : Nat → Int32) (script_f_letEnds : Nat → Int32) (script__lets : Int32) (v_hasScript : Int32) (x : Int32) : Prop :=
  let r1 := (s_Pur_isAsker x);
  if r1 = 0 then (True)
  else (if v_hasScript = 0 then (True)
  else (let r2 := (lp_Scr_all_4 script_Q script__asked 1 13 (0 : Int32) (0 : Int32));
  (ok_Scr_all script_Q script__asked 1) ∧ (let r3 := (s_Pur_leftTo purses_f_granted purses_f_spent x);
  if r3 < r2 then (True)
  else (let r4 := (s_Pur_leftTo purses_f_granted purses_f_spent 4);
  if r2 ≤ r4 then (let r5 := (lp_Scr_all_4 script_Q script__asked 4 13 (0 : Int32) (0 : Int32));
    (ok_Scr_all script_Q script__asked 4) ∧ (if r5 ≤ tape__size then (let r6 := (s_Pur_spend purses_f_spent x r2);
      let r7 := (s_Pur_spend r6 4 r2);
      let r8 := (s_Scr_work script_conditions_f_steps script_conditions_f_values script_conditions_f_stack script_conditions__height script_conditions_f_holding script_Q script__asked script_f_letStarts script_f_letEnds script__lets table_f_numbers table__rows f_toldNumbers);
      (ok_Scr_work script_conditions_f_steps script_conditions_f_values script_conditions_f_stack script_conditions__height script_conditions_f_holding script_Q script__asked script_f_letStarts script_f_letEnds script__lets table_f_numbers table__rows f_toldNumbers) ∧ (let r9 := (lp_Scr_all_4 script_Q script__asked 2 13 (0 : Int32) (0 : Int32));
      (ok_Scr_all script_Q script__asked 2) ∧ (let r10 := (lp_PQ_blur_6 tape__p tape__q tape_f_cells tape__size script_Q script__asked 13 (0 : Int32) (0 : Int32) (0 : Int32) r8.2.2.2);
      (ok_PQ_blur tape__p tape__q tape_f_cells tape__size r8.2.2.2 script_Q script__asked) ∧ (let r11 := (s_Tape_remove tape_f_cells tape__size r10.1);
      (up tape__size 3000) ∧ (True)))))
    else (True)))
  else (True)))))
def s_PQ_print (written_f_signs : Nat → Int32) (written__size : Int32) (script_tokens_f_kinds : Nat → Int32) (script_tokens_f_values : Nat → Int32) (script_tokens__size : Int32) (v_hasScript : Int32) : Int32 × Int32 × (Nat → Int32) :=
  if v_hasScript = 0 then ((-103), written__size, written_f_signs)
  else let r1 := (s_Scr_writeInto script_tokens_f_kinds script_tokens_f_values script_tokens__size written_f_signs 0);
  (r1.1, r1.1, r1.2)
def ok_PQ_print (written_f_signs : Nat → Int32) (script_tokens_f_kinds : Nat → Int32) (script_tokens_f_values : Nat → Int32) (script_tokens__size : Int32) (v_hasScript : Int32) : Prop :=
  if v_hasScript = 0 then (True)
  else (let r1 := (s_Scr_writeInto script_tokens_f_kinds script_tokens_f_values script_tokens__size written_f_signs 0);
  (ok_Scr_writeInto script_tokens_f_kinds script_tokens_f_values script_tokens__size written_f_signs 0) ∧ (True))
abbrev RcF : Type := (Nat → Int32) → (Nat → Int32) → (Nat → Int32) → (Nat → Int32) → Int32 → (Nat → Int32) → Int32 → Int32 → Int32 → Int32 × Int32 × Int32 × Int32 × (Nat → Int32) × (Nat → Int32)
abbrev RcO : Type := (Nat → Int32) → (Nat → Int32) → (Nat → Int32) → (Nat → Int32) → Int32 → (Nat → Int32) → Int32 → Int32 → Int32 → Prop
def DetF (l : Launch) (G : GG) (y : MethodName) (w : List Cond) (b_ : Nat) (f : RcF) (okf : RcO) : Prop := ∀ (h : Nat) (script_h : Nat) (script_tokens_h : Nat) (script_tokens_a_kinds : Nat) (script_tokens_a_values : Nat) (script_tokens_a_places : Nat) (script_conditions_h : Nat) (script_conditions_a_steps : Nat) (script_conditions_a_values : Nat) (script_conditions_a_stack : Nat) (script_conditions_a_holding : Nat) (script_a_questions : Nat) (script_a_letStarts : Nat) (script_a_letEnds : Nat) (script_a_letOfLetter : Nat) (script_tokens_f_kinds : Nat → Int32) (script_tokens_f_values : Nat → Int32) (script_tokens__size : Int32) (script_conditions_f_steps : Nat → Int32) (script_conditions_f_values : Nat → Int32) (script_conditions__size : Int32) (script_conditions__height : Int32) (script__asked : Int32) (script_f_letOfLetter : Nat → Int32) (script__lets : Int32) (v_at : Int32) (v_joints : Int32) (x : Int32), okf script_tokens_f_kinds script_tokens_f_values script_conditions_f_steps script_conditions_f_values script_conditions__size script_f_letOfLetter v_at v_joints x → Det l G y w (rmD b_) 0 0 [.ref h, .int x] [(h, .inr (11, [.ref script_h, .ref script_tokens_h, .ref script_conditions_h, .int v_at, .int v_joints])), (script_h, .inr (10, [.ref script_tokens_h, .ref script_conditions_h, .ref script_a_questions, .int script__asked, .ref script_a_letStarts, .ref script_a_letEnds, .ref script_a_letOfLetter, .int script__lets])), (script_tokens_h, .inr (7, [.ref script_tokens_a_kinds, .ref script_tokens_a_values, .ref script_tokens_a_places, .int script_tokens__size])), (script_tokens_a_kinds, .inl (gI G, 2001, .inl script_tokens_f_kinds)), (script_tokens_a_values, .inl (gI G, 2001, .inl script_tokens_f_values)), (script_conditions_h, .inr (8, [.ref script_conditions_a_steps, .ref script_conditions_a_values, .int script_conditions__size, .ref script_conditions_a_stack, .int script_conditions__height, .ref script_conditions_a_holding])), (script_conditions_a_steps, .inl (gI G, 2000, .inl script_conditions_f_steps)), (script_conditions_a_values, .inl (gI G, 2000, .inl script_conditions_f_values)), (script_a_letOfLetter, .inl (gI G, 26, .inl script_f_letOfLetter))] (some (.int (f script_tokens_f_kinds script_tokens_f_values script_conditions_f_steps script_conditions_f_values script_conditions__size script_f_letOfLetter v_at v_joints x).1)) [(h, .inr (11, [.ref script_h, .ref script_tokens_h, .ref script_conditions_h, .int (f script_tokens_f_kinds script_tokens_f_values script_conditions_f_steps script_conditions_f_values script_conditions__size script_f_letOfLetter v_at v_joints x).2.1, .int (f script_tokens_f_kinds script_tokens_f_values script_conditions_f_steps script_conditions_f_values script_conditions__size script_f_letOfLetter v_at v_joints x).2.2.1])), (script_h, .inr (10, [.ref script_tokens_h, .ref script_conditions_h, .ref script_a_questions, .int script__asked, .ref script_a_letStarts, .ref script_a_letEnds, .ref script_a_letOfLetter, .int script__lets])), (script_tokens_h, .inr (7, [.ref script_tokens_a_kinds, .ref script_tokens_a_values, .ref script_tokens_a_places, .int script_tokens__size])), (script_tokens_a_kinds, .inl (gI G, 2001, .inl script_tokens_f_kinds)), (script_tokens_a_values, .inl (gI G, 2001, .inl script_tokens_f_values)), (script_conditions_h, .inr (8, [.ref script_conditions_a_steps, .ref script_conditions_a_values, .int (f script_tokens_f_kinds script_tokens_f_values script_conditions_f_steps script_conditions_f_values script_conditions__size script_f_letOfLetter v_at v_joints x).2.2.2.1, .ref script_conditions_a_stack, .int script_conditions__height, .ref script_conditions_a_holding])), (script_conditions_a_steps, .inl (gI G, 2000, .inl (f script_tokens_f_kinds script_tokens_f_values script_conditions_f_steps script_conditions_f_values script_conditions__size script_f_letOfLetter v_at v_joints x).2.2.2.2.1)), (script_conditions_a_values, .inl (gI G, 2000, .inl (f script_tokens_f_kinds script_tokens_f_values script_conditions_f_steps script_conditions_f_values script_conditions__size script_f_letOfLetter v_at v_joints x).2.2.2.2.2)), (script_a_letOfLetter, .inl (gI G, 26, .inl script_f_letOfLetter))]

def lp_Par_sum_14 (fac : RcF) (script_tokens_f_kinds : Nat → Int32) (script_tokens_f_values : Nat → Int32) (script_f_letOfLetter : Nat → Int32) (x : Int32) : Nat → Int32 → Int32 → Int32 → Int32 → Int32 → (Nat → Int32) → (Nat → Int32) → Int32 × Int32 × Int32 × Int32 × (Nat → Int32) × (Nat → Int32)
  | 0, _, _, _, _, _, _, _ => (0, 0, 0, 0, (fun _ => 0), (fun _ => 0))
  | n + 1, i2, i3, w3_h, w4_h, w2_script_conditions_h, g_script_conditions_a_steps, g_script_conditions_a_values =>
    if 2000 ≤ i3 then (0, w3_h, w4_h, w2_script_conditions_h, g_script_conditions_a_steps, g_script_conditions_a_values)
    else let r1 := (s_Par_kind script_tokens_f_kinds w3_h);
    if i2 = (-1) then (if r1 = 25 then (let r2 := (fac script_tokens_f_kinds script_tokens_f_values g_script_conditions_a_steps g_script_conditions_a_values w2_script_conditions_h script_f_letOfLetter (w3_h + 1) w4_h x);
        if r2.1 = 0 then (0, r2.2.1, r2.2.2.1, r2.2.2.2.1, r2.2.2.2.2.1, r2.2.2.2.2.2)
        else if r1 = 25 then (let r3 := (s_Cond_add r2.2.2.2.2.1 r2.2.2.2.2.2 r2.2.2.2.1 25 0);
          (lp_Par_sum_14 fac script_tokens_f_kinds script_tokens_f_values script_f_letOfLetter x n i2 (i3 + 1) r2.2.1 r2.2.2.1 r3.1 r3.2.1 r3.2.2))
        else (lp_Par_sum_14 fac script_tokens_f_kinds script_tokens_f_values script_f_letOfLetter x n r1 (i3 + 1) r2.2.1 r2.2.2.1 r2.2.2.2.1 r2.2.2.2.2.1 r2.2.2.2.2.2))
      else if r1 = 23 then (let r4 := (fac script_tokens_f_kinds script_tokens_f_values g_script_conditions_a_steps g_script_conditions_a_values w2_script_conditions_h script_f_letOfLetter (w3_h + 1) w4_h x);
        if r4.1 = 0 then (0, r4.2.1, r4.2.2.1, r4.2.2.2.1, r4.2.2.2.2.1, r4.2.2.2.2.2)
        else if r1 = 25 then (let r5 := (s_Cond_add r4.2.2.2.2.1 r4.2.2.2.2.2 r4.2.2.2.1 25 0);
          (lp_Par_sum_14 fac script_tokens_f_kinds script_tokens_f_values script_f_letOfLetter x n i2 (i3 + 1) r4.2.1 r4.2.2.1 r5.1 r5.2.1 r5.2.2))
        else (lp_Par_sum_14 fac script_tokens_f_kinds script_tokens_f_values script_f_letOfLetter x n r1 (i3 + 1) r4.2.1 r4.2.2.1 r4.2.2.2.1 r4.2.2.2.2.1 r4.2.2.2.2.2))
      else if r1 = 24 then (let r6 := (fac script_tokens_f_kinds script_tokens_f_values g_script_conditions_a_steps g_script_conditions_a_values w2_script_conditions_h script_f_letOfLetter (w3_h + 1) w4_h x);
        if r6.1 = 0 then (0, r6.2.1, r6.2.2.1, r6.2.2.2.1, r6.2.2.2.2.1, r6.2.2.2.2.2)
        else if r1 = 25 then (let r7 := (s_Cond_add r6.2.2.2.2.1 r6.2.2.2.2.2 r6.2.2.2.1 25 0);
          (lp_Par_sum_14 fac script_tokens_f_kinds script_tokens_f_values script_f_letOfLetter x n i2 (i3 + 1) r6.2.1 r6.2.2.1 r7.1 r7.2.1 r7.2.2))
        else (lp_Par_sum_14 fac script_tokens_f_kinds script_tokens_f_values script_f_letOfLetter x n r1 (i3 + 1) r6.2.1 r6.2.2.1 r6.2.2.2.1 r6.2.2.2.2.1 r6.2.2.2.2.2))
      else (1, w3_h, w4_h, w2_script_conditions_h, g_script_conditions_a_steps, g_script_conditions_a_values))
    else if r1 = 25 then (if r1 = 25 then (let r8 := (fac script_tokens_f_kinds script_tokens_f_values g_script_conditions_a_steps g_script_conditions_a_values w2_script_conditions_h script_f_letOfLetter (w3_h + 1) w4_h x);
        if r8.1 = 0 then (0, r8.2.1, r8.2.2.1, r8.2.2.2.1, r8.2.2.2.2.1, r8.2.2.2.2.2)
        else if r1 = 25 then (let r9 := (s_Cond_add r8.2.2.2.2.1 r8.2.2.2.2.2 r8.2.2.2.1 25 0);
          (lp_Par_sum_14 fac script_tokens_f_kinds script_tokens_f_values script_f_letOfLetter x n i2 (i3 + 1) r8.2.1 r8.2.2.1 r9.1 r9.2.1 r9.2.2))
        else (lp_Par_sum_14 fac script_tokens_f_kinds script_tokens_f_values script_f_letOfLetter x n r1 (i3 + 1) r8.2.1 r8.2.2.1 r8.2.2.2.1 r8.2.2.2.2.1 r8.2.2.2.2.2))
      else if r1 = 23 then (let r10 := (fac script_tokens_f_kinds script_tokens_f_values g_script_conditions_a_steps g_script_conditions_a_values w2_script_conditions_h script_f_letOfLetter (w3_h + 1) w4_h x);
        if r10.1 = 0 then (0, r10.2.1, r10.2.2.1, r10.2.2.2.1, r10.2.2.2.2.1, r10.2.2.2.2.2)
        else if r1 = 25 then (let r11 := (s_Cond_add r10.2.2.2.2.1 r10.2.2.2.2.2 r10.2.2.2.1 25 0);
          (lp_Par_sum_14 fac script_tokens_f_kinds script_tokens_f_values script_f_letOfLetter x n i2 (i3 + 1) r10.2.1 r10.2.2.1 r11.1 r11.2.1 r11.2.2))
        else (lp_Par_sum_14 fac script_tokens_f_kinds script_tokens_f_values script_f_letOfLetter x n r1 (i3 + 1) r10.2.1 r10.2.2.1 r10.2.2.2.1 r10.2.2.2.2.1 r10.2.2.2.2.2))
      else if r1 = 24 then (let r12 := (fac script_tokens_f_kinds script_tokens_f_values g_script_conditions_a_steps g_script_conditions_a_values w2_script_conditions_h script_f_letOfLetter (w3_h + 1) w4_h x);
        if r12.1 = 0 then (0, r12.2.1, r12.2.2.1, r12.2.2.2.1, r12.2.2.2.2.1, r12.2.2.2.2.2)
        else if r1 = 25 then (let r13 := (s_Cond_add r12.2.2.2.2.1 r12.2.2.2.2.2 r12.2.2.2.1 25 0);
          (lp_Par_sum_14 fac script_tokens_f_kinds script_tokens_f_values script_f_letOfLetter x n i2 (i3 + 1) r12.2.1 r12.2.2.1 r13.1 r13.2.1 r13.2.2))
        else (lp_Par_sum_14 fac script_tokens_f_kinds script_tokens_f_values script_f_letOfLetter x n r1 (i3 + 1) r12.2.1 r12.2.2.1 r12.2.2.2.1 r12.2.2.2.2.1 r12.2.2.2.2.2))
      else (1, w3_h, w4_h, w2_script_conditions_h, g_script_conditions_a_steps, g_script_conditions_a_values))
    else let r14 := (s_Cond_add g_script_conditions_a_steps g_script_conditions_a_values w2_script_conditions_h i2 0);
    if r1 = 25 then (let r15 := (fac script_tokens_f_kinds script_tokens_f_values r14.2.1 r14.2.2 r14.1 script_f_letOfLetter (w3_h + 1) w4_h x);
      if r15.1 = 0 then (0, r15.2.1, r15.2.2.1, r15.2.2.2.1, r15.2.2.2.2.1, r15.2.2.2.2.2)
      else if r1 = 25 then (let r16 := (s_Cond_add r15.2.2.2.2.1 r15.2.2.2.2.2 r15.2.2.2.1 25 0);
        (lp_Par_sum_14 fac script_tokens_f_kinds script_tokens_f_values script_f_letOfLetter x n i2 (i3 + 1) r15.2.1 r15.2.2.1 r16.1 r16.2.1 r16.2.2))
      else (lp_Par_sum_14 fac script_tokens_f_kinds script_tokens_f_values script_f_letOfLetter x n r1 (i3 + 1) r15.2.1 r15.2.2.1 r15.2.2.2.1 r15.2.2.2.2.1 r15.2.2.2.2.2))
    else if r1 = 23 then (let r17 := (fac script_tokens_f_kinds script_tokens_f_values r14.2.1 r14.2.2 r14.1 script_f_letOfLetter (w3_h + 1) w4_h x);
      if r17.1 = 0 then (0, r17.2.1, r17.2.2.1, r17.2.2.2.1, r17.2.2.2.2.1, r17.2.2.2.2.2)
      else if r1 = 25 then (let r18 := (s_Cond_add r17.2.2.2.2.1 r17.2.2.2.2.2 r17.2.2.2.1 25 0);
        (lp_Par_sum_14 fac script_tokens_f_kinds script_tokens_f_values script_f_letOfLetter x n i2 (i3 + 1) r17.2.1 r17.2.2.1 r18.1 r18.2.1 r18.2.2))
      else (lp_Par_sum_14 fac script_tokens_f_kinds script_tokens_f_values script_f_letOfLetter x n r1 (i3 + 1) r17.2.1 r17.2.2.1 r17.2.2.2.1 r17.2.2.2.2.1 r17.2.2.2.2.2))
    else if r1 = 24 then (let r19 := (fac script_tokens_f_kinds script_tokens_f_values r14.2.1 r14.2.2 r14.1 script_f_letOfLetter (w3_h + 1) w4_h x);
      if r19.1 = 0 then (0, r19.2.1, r19.2.2.1, r19.2.2.2.1, r19.2.2.2.2.1, r19.2.2.2.2.2)
      else if r1 = 25 then (let r20 := (s_Cond_add r19.2.2.2.2.1 r19.2.2.2.2.2 r19.2.2.2.1 25 0);
        (lp_Par_sum_14 fac script_tokens_f_kinds script_tokens_f_values script_f_letOfLetter x n i2 (i3 + 1) r19.2.1 r19.2.2.1 r20.1 r20.2.1 r20.2.2))
      else (lp_Par_sum_14 fac script_tokens_f_kinds script_tokens_f_values script_f_letOfLetter x n r1 (i3 + 1) r19.2.1 r19.2.2.1 r19.2.2.2.1 r19.2.2.2.2.1 r19.2.2.2.2.2))
    else (1, w3_h, w4_h, r14.1, r14.2.1, r14.2.2)
def oklp_Par_sum_14 (fac : RcF) (okfac : RcO) (script_tokens_f_kinds : Nat → Int32) (script_tokens_f_values : Nat → Int32) (script_f_letOfLetter : Nat → Int32) (x : Int32) : Nat → Int32 → Int32 → Int32 → Int32 → Int32 → (Nat → Int32) → (Nat → Int32) → Prop
  | 0, _, _, _, _, _, _, _ => False
  | n + 1, i2, i3, w3_h, w4_h, w2_script_conditions_h, g_script_conditions_a_steps, g_script_conditions_a_values =>
    if 2000 ≤ i3 then (True)
    else (let r1 := (s_Par_kind script_tokens_f_kinds w3_h);
    (up w3_h 2001) ∧ (if i2 = (-1) then (if r1 = 25 then (let r2 := (fac script_tokens_f_kinds script_tokens_f_values g_script_conditions_a_steps g_script_conditions_a_values w2_script_conditions_h script_f_letOfLetter (w3_h + 1) w4_h x);
        (okfac script_tokens_f_kinds script_tokens_f_values g_script_conditions_a_steps g_script_conditions_a_values w2_script_conditions_h script_f_letOfLetter (w3_h + 1) w4_h x) ∧ (if r2.1 = 0 then (True)
        else (if r1 = 25 then (let r3 := (s_Cond_add r2.2.2.2.2.1 r2.2.2.2.2.2 r2.2.2.2.1 25 0);
          (up r2.2.2.2.1 2000) ∧ ((oklp_Par_sum_14 fac okfac script_tokens_f_kinds script_tokens_f_values script_f_letOfLetter x n i2 (i3 + 1) r2.2.1 r2.2.2.1 r3.1 r3.2.1 r3.2.2)))
        else ((oklp_Par_sum_14 fac okfac script_tokens_f_kinds script_tokens_f_values script_f_letOfLetter x n r1 (i3 + 1) r2.2.1 r2.2.2.1 r2.2.2.2.1 r2.2.2.2.2.1 r2.2.2.2.2.2)))))
      else (if r1 = 23 then (let r4 := (fac script_tokens_f_kinds script_tokens_f_values g_script_conditions_a_steps g_script_conditions_a_values w2_script_conditions_h script_f_letOfLetter (w3_h + 1) w4_h x);
        (okfac script_tokens_f_kinds script_tokens_f_values g_script_conditions_a_steps g_script_conditions_a_values w2_script_conditions_h script_f_letOfLetter (w3_h + 1) w4_h x) ∧ (if r4.1 = 0 then (True)
        else (if r1 = 25 then (let r5 := (s_Cond_add r4.2.2.2.2.1 r4.2.2.2.2.2 r4.2.2.2.1 25 0);
          (up r4.2.2.2.1 2000) ∧ ((oklp_Par_sum_14 fac okfac script_tokens_f_kinds script_tokens_f_values script_f_letOfLetter x n i2 (i3 + 1) r4.2.1 r4.2.2.1 r5.1 r5.2.1 r5.2.2)))
        else ((oklp_Par_sum_14 fac okfac script_tokens_f_kinds script_tokens_f_values script_f_letOfLetter x n r1 (i3 + 1) r4.2.1 r4.2.2.1 r4.2.2.2.1 r4.2.2.2.2.1 r4.2.2.2.2.2)))))
      else (if r1 = 24 then (let r6 := (fac script_tokens_f_kinds script_tokens_f_values g_script_conditions_a_steps g_script_conditions_a_values w2_script_conditions_h script_f_letOfLetter (w3_h + 1) w4_h x);
        (okfac script_tokens_f_kinds script_tokens_f_values g_script_conditions_a_steps g_script_conditions_a_values w2_script_conditions_h script_f_letOfLetter (w3_h + 1) w4_h x) ∧ (if r6.1 = 0 then (True)
        else (if r1 = 25 then (let r7 := (s_Cond_add r6.2.2.2.2.1 r6.2.2.2.2.2 r6.2.2.2.1 25 0);
          (up r6.2.2.2.1 2000) ∧ ((oklp_Par_sum_14 fac okfac script_tokens_f_kinds script_tokens_f_values script_f_letOfLetter x n i2 (i3 + 1) r6.2.1 r6.2.2.1 r7.1 r7.2.1 r7.2.2)))
        else ((oklp_Par_sum_14 fac okfac script_tokens_f_kinds script_tokens_f_values script_f_letOfLetter x n r1 (i3 + 1) r6.2.1 r6.2.2.1 r6.2.2.2.1 r6.2.2.2.2.1 r6.2.2.2.2.2)))))
      else (True))))
    else (if r1 = 25 then (if r1 = 25 then (let r8 := (fac script_tokens_f_kinds script_tokens_f_values g_script_conditions_a_steps g_script_conditions_a_values w2_script_conditions_h script_f_letOfLetter (w3_h + 1) w4_h x);
        (okfac script_tokens_f_kinds script_tokens_f_values g_script_conditions_a_steps g_script_conditions_a_values w2_script_conditions_h script_f_letOfLetter (w3_h + 1) w4_h x) ∧ (if r8.1 = 0 then (True)
        else (if r1 = 25 then (let r9 := (s_Cond_add r8.2.2.2.2.1 r8.2.2.2.2.2 r8.2.2.2.1 25 0);
          (up r8.2.2.2.1 2000) ∧ ((oklp_Par_sum_14 fac okfac script_tokens_f_kinds script_tokens_f_values script_f_letOfLetter x n i2 (i3 + 1) r8.2.1 r8.2.2.1 r9.1 r9.2.1 r9.2.2)))
        else ((oklp_Par_sum_14 fac okfac script_tokens_f_kinds script_tokens_f_values script_f_letOfLetter x n r1 (i3 + 1) r8.2.1 r8.2.2.1 r8.2.2.2.1 r8.2.2.2.2.1 r8.2.2.2.2.2)))))
      else (if r1 = 23 then (let r10 := (fac script_tokens_f_kinds script_tokens_f_values g_script_conditions_a_steps g_script_conditions_a_values w2_script_conditions_h script_f_letOfLetter (w3_h + 1) w4_h x);
        (okfac script_tokens_f_kinds script_tokens_f_values g_script_conditions_a_steps g_script_conditions_a_values w2_script_conditions_h script_f_letOfLetter (w3_h + 1) w4_h x) ∧ (if r10.1 = 0 then (True)
        else (if r1 = 25 then (let r11 := (s_Cond_add r10.2.2.2.2.1 r10.2.2.2.2.2 r10.2.2.2.1 25 0);
          (up r10.2.2.2.1 2000) ∧ ((oklp_Par_sum_14 fac okfac script_tokens_f_kinds script_tokens_f_values script_f_letOfLetter x n i2 (i3 + 1) r10.2.1 r10.2.2.1 r11.1 r11.2.1 r11.2.2)))
        else ((oklp_Par_sum_14 fac okfac script_tokens_f_kinds script_tokens_f_values script_f_letOfLetter x n r1 (i3 + 1) r10.2.1 r10.2.2.1 r10.2.2.2.1 r10.2.2.2.2.1 r10.2.2.2.2.2)))))
      else (if r1 = 24 then (let r12 := (fac script_tokens_f_kinds script_tokens_f_values g_script_conditions_a_steps g_script_conditions_a_values w2_script_conditions_h script_f_letOfLetter (w3_h + 1) w4_h x);
        (okfac script_tokens_f_kinds script_tokens_f_values g_script_conditions_a_steps g_script_conditions_a_values w2_script_conditions_h script_f_letOfLetter (w3_h + 1) w4_h x) ∧ (if r12.1 = 0 then (True)
        else (if r1 = 25 then (let r13 := (s_Cond_add r12.2.2.2.2.1 r12.2.2.2.2.2 r12.2.2.2.1 25 0);
          (up r12.2.2.2.1 2000) ∧ ((oklp_Par_sum_14 fac okfac script_tokens_f_kinds script_tokens_f_values script_f_letOfLetter x n i2 (i3 + 1) r12.2.1 r12.2.2.1 r13.1 r13.2.1 r13.2.2)))
        else ((oklp_Par_sum_14 fac okfac script_tokens_f_kinds script_tokens_f_values script_f_letOfLetter x n r1 (i3 + 1) r12.2.1 r12.2.2.1 r12.2.2.2.1 r12.2.2.2.2.1 r12.2.2.2.2.2)))))
      else (True))))
    else (let r14 := (s_Cond_add g_script_conditions_a_steps g_script_conditions_a_values w2_script_conditions_h i2 0);
    (up w2_script_conditions_h 2000) ∧ (if r1 = 25 then (let r15 := (fac script_tokens_f_kinds script_tokens_f_values r14.2.1 r14.2.2 r14.1 script_f_letOfLetter (w3_h + 1) w4_h x);
      (okfac script_tokens_f_kinds script_tokens_f_values r14.2.1 r14.2.2 r14.1 script_f_letOfLetter (w3_h + 1) w4_h x) ∧ (if r15.1 = 0 then (True)
      else (if r1 = 25 then (let r16 := (s_Cond_add r15.2.2.2.2.1 r15.2.2.2.2.2 r15.2.2.2.1 25 0);
        (up r15.2.2.2.1 2000) ∧ ((oklp_Par_sum_14 fac okfac script_tokens_f_kinds script_tokens_f_values script_f_letOfLetter x n i2 (i3 + 1) r15.2.1 r15.2.2.1 r16.1 r16.2.1 r16.2.2)))
      else ((oklp_Par_sum_14 fac okfac script_tokens_f_kinds script_tokens_f_values script_f_letOfLetter x n r1 (i3 + 1) r15.2.1 r15.2.2.1 r15.2.2.2.1 r15.2.2.2.2.1 r15.2.2.2.2.2)))))
    else (if r1 = 23 then (let r17 := (fac script_tokens_f_kinds script_tokens_f_values r14.2.1 r14.2.2 r14.1 script_f_letOfLetter (w3_h + 1) w4_h x);
      (okfac script_tokens_f_kinds script_tokens_f_values r14.2.1 r14.2.2 r14.1 script_f_letOfLetter (w3_h + 1) w4_h x) ∧ (if r17.1 = 0 then (True)
      else (if r1 = 25 then (let r18 := (s_Cond_add r17.2.2.2.2.1 r17.2.2.2.2.2 r17.2.2.2.1 25 0);
        (up r17.2.2.2.1 2000) ∧ ((oklp_Par_sum_14 fac okfac script_tokens_f_kinds script_tokens_f_values script_f_letOfLetter x n i2 (i3 + 1) r17.2.1 r17.2.2.1 r18.1 r18.2.1 r18.2.2)))
      else ((oklp_Par_sum_14 fac okfac script_tokens_f_kinds script_tokens_f_values script_f_letOfLetter x n r1 (i3 + 1) r17.2.1 r17.2.2.1 r17.2.2.2.1 r17.2.2.2.2.1 r17.2.2.2.2.2)))))
    else (if r1 = 24 then (let r19 := (fac script_tokens_f_kinds script_tokens_f_values r14.2.1 r14.2.2 r14.1 script_f_letOfLetter (w3_h + 1) w4_h x);
      (okfac script_tokens_f_kinds script_tokens_f_values r14.2.1 r14.2.2 r14.1 script_f_letOfLetter (w3_h + 1) w4_h x) ∧ (if r19.1 = 0 then (True)
      else (if r1 = 25 then (let r20 := (s_Cond_add r19.2.2.2.2.1 r19.2.2.2.2.2 r19.2.2.2.1 25 0);
        (up r19.2.2.2.1 2000) ∧ ((oklp_Par_sum_14 fac okfac script_tokens_f_kinds script_tokens_f_values script_f_letOfLetter x n i2 (i3 + 1) r19.2.1 r19.2.2.1 r20.1 r20.2.1 r20.2.2)))
      else ((oklp_Par_sum_14 fac okfac script_tokens_f_kinds script_tokens_f_values script_f_letOfLetter x n r1 (i3 + 1) r19.2.1 r19.2.2.1 r19.2.2.2.1 r19.2.2.2.2.1 r19.2.2.2.2.2)))))
    else (True))))))))
def s_Par_sum (fac : RcF) (script_tokens_f_kinds : Nat → Int32) (script_tokens_f_values : Nat → Int32) (script_conditions_f_steps : Nat → Int32) (script_conditions_f_values : Nat → Int32) (script_conditions__size : Int32) (script_f_letOfLetter : Nat → Int32) (v_at : Int32) (v_joints : Int32) (x : Int32) : Int32 × Int32 × Int32 × Int32 × (Nat → Int32) × (Nat → Int32) :=
  let r1 := (fac script_tokens_f_kinds script_tokens_f_values script_conditions_f_steps script_conditions_f_values script_conditions__size script_f_letOfLetter v_at v_joints x);
  if r1.1 = 0 then (0, r1.2.1, r1.2.2.1, r1.2.2.2.1, r1.2.2.2.2.1, r1.2.2.2.2.2)
  else (lp_Par_sum_14 fac script_tokens_f_kinds script_tokens_f_values script_f_letOfLetter x 2001 (-1) (0 : Int32) r1.2.1 r1.2.2.1 r1.2.2.2.1 r1.2.2.2.2.1 r1.2.2.2.2.2)
def ok_Par_sum (fac : RcF) (okfac : RcO) (script_tokens_f_kinds : Nat → Int32) (script_tokens_f_values : Nat → Int32) (script_conditions_f_steps : Nat → Int32) (script_conditions_f_values : Nat → Int32) (script_conditions__size : Int32) (script_f_letOfLetter : Nat → Int32) (v_at : Int32) (v_joints : Int32) (x : Int32) : Prop :=
  let r1 := (fac script_tokens_f_kinds script_tokens_f_values script_conditions_f_steps script_conditions_f_values script_conditions__size script_f_letOfLetter v_at v_joints x);
  (okfac script_tokens_f_kinds script_tokens_f_values script_conditions_f_steps script_conditions_f_values script_conditions__size script_f_letOfLetter v_at v_joints x) ∧ (if r1.1 = 0 then (True)
  else ((oklp_Par_sum_14 fac okfac script_tokens_f_kinds script_tokens_f_values script_f_letOfLetter x 2001 (-1) (0 : Int32) r1.2.1 r1.2.2.1 r1.2.2.2.1 r1.2.2.2.2.1 r1.2.2.2.2.2)))
def s_Par_factor (fac : RcF) (sm : RcF) (script_tokens_f_kinds : Nat → Int32) (script_tokens_f_values : Nat → Int32) (script_conditions_f_steps : Nat → Int32) (script_conditions_f_values : Nat → Int32) (script_conditions__size : Int32) (script_f_letOfLetter : Nat → Int32) (v_at : Int32) (v_joints : Int32) (x : Int32) : Int32 × Int32 × Int32 × Int32 × (Nat → Int32) × (Nat → Int32) :=
  let r1 := (s_Par_kind script_tokens_f_kinds v_at);
  if r1 = 2 then (let r2 := (s_Par_value script_tokens_f_values v_at);
    let r3 := (s_Cond_add script_conditions_f_steps script_conditions_f_values script_conditions__size r1 r2);
    (1, v_at + 1, v_joints, r3.1, r3.2.1, r3.2.2))
  else if r1 = 3 then (let r4 := (s_Par_value script_tokens_f_values v_at);
    let r5 := (s_Cond_add script_conditions_f_steps script_conditions_f_values script_conditions__size r1 r4);
    (1, v_at + 1, v_joints, r5.1, r5.2.1, r5.2.2))
  else if r1 = 24 then (let r6 := (s_Par_takeDeeper v_at x);
    if r6.1 = 0 then (0, r6.2, v_joints, script_conditions__size, script_conditions_f_steps, script_conditions_f_values)
    else let r7 := (fac script_tokens_f_kinds script_tokens_f_values script_conditions_f_steps script_conditions_f_values script_conditions__size script_f_letOfLetter r6.2 v_joints (x + 1));
    if r7.1 = 0 then (0, r7.2.1, r7.2.2.1, r7.2.2.2.1, r7.2.2.2.2.1, r7.2.2.2.2.2)
    else let r8 := (s_Cond_add r7.2.2.2.2.1 r7.2.2.2.2.2 r7.2.2.2.1 (-1) 0);
    (1, r7.2.1, r7.2.2.1, r8.1, r8.2.1, r8.2.2))
  else if r1 = 27 then (let r9 := (s_Par_takeDeeper v_at x);
    if r9.1 = 0 then (0, r9.2, v_joints, script_conditions__size, script_conditions_f_steps, script_conditions_f_values)
    else let r10 := (sm script_tokens_f_kinds script_tokens_f_values script_conditions_f_steps script_conditions_f_values script_conditions__size script_f_letOfLetter r9.2 v_joints (x + 1));
    if r10.1 = 0 then (0, r10.2.1, r10.2.2.1, r10.2.2.2.1, r10.2.2.2.2.1, r10.2.2.2.2.2)
    else let r11 := (s_Par_take script_tokens_f_kinds r10.2.1 28);
    if r11.1 = 0 then (0, r11.2, r10.2.2.1, r10.2.2.2.1, r10.2.2.2.2.1, r10.2.2.2.2.2)
    else (1, r11.2, r10.2.2.1, r10.2.2.2.1, r10.2.2.2.2.1, r10.2.2.2.2.2))
  else (0, v_at, v_joints, script_conditions__size, script_conditions_f_steps, script_conditions_f_values)
def ok_Par_factor (fac : RcF) (okfac : RcO) (sm : RcF) (oksm : RcO) (script_tokens_f_kinds : Nat → Int32) (script_tokens_f_values : Nat → Int32) (script_conditions_f_steps : Nat → Int32) (script_conditions_f_values : Nat → Int32) (script_conditions__size : Int32) (script_f_letOfLetter : Nat → Int32) (v_at : Int32) (v_joints : Int32) (x : Int32) : Prop :=
  let r1 := (s_Par_kind script_tokens_f_kinds v_at);
  (up v_at 2001) ∧ (if r1 = 2 then (let r2 := (s_Par_value script_tokens_f_values v_at);
    (up v_at 2001) ∧ (let r3 := (s_Cond_add script_conditions_f_steps script_conditions_f_values script_conditions__size r1 r2);
    (up script_conditions__size 2000) ∧ (True)))
  else (if r1 = 3 then (let r4 := (s_Par_value script_tokens_f_values v_at);
    (up v_at 2001) ∧ (let r5 := (s_Cond_add script_conditions_f_steps script_conditions_f_values script_conditions__size r1 r4);
    (up script_conditions__size 2000) ∧ (True)))
  else (if r1 = 24 then (let r6 := (s_Par_takeDeeper v_at x);
    if r6.1 = 0 then (True)
    else (let r7 := (fac script_tokens_f_kinds script_tokens_f_values script_conditions_f_steps script_conditions_f_values script_conditions__size script_f_letOfLetter r6.2 v_joints (x + 1));
    (okfac script_tokens_f_kinds script_tokens_f_values script_conditions_f_steps script_conditions_f_values script_conditions__size script_f_letOfLetter r6.2 v_joints (x + 1)) ∧ (if r7.1 = 0 then (True)
    else (let r8 := (s_Cond_add r7.2.2.2.2.1 r7.2.2.2.2.2 r7.2.2.2.1 (-1) 0);
    (up r7.2.2.2.1 2000) ∧ (True)))))
  else (if r1 = 27 then (let r9 := (s_Par_takeDeeper v_at x);
    if r9.1 = 0 then (True)
    else (let r10 := (sm script_tokens_f_kinds script_tokens_f_values script_conditions_f_steps script_conditions_f_values script_conditions__size script_f_letOfLetter r9.2 v_joints (x + 1));
    (oksm script_tokens_f_kinds script_tokens_f_values script_conditions_f_steps script_conditions_f_values script_conditions__size script_f_letOfLetter r9.2 v_joints (x + 1)) ∧ (if r10.1 = 0 then (True)
    else (let r11 := (s_Par_take script_tokens_f_kinds r10.2.1 28);
    (up r10.2.1 2001) ∧ (if r11.1 = 0 then (True)
    else (True))))))
  else (True)))))
def lp_Par_condition_14 (tru : RcF) (script_tokens_f_kinds : Nat → Int32) (script_tokens_f_values : Nat → Int32) (script_f_letOfLetter : Nat → Int32) (x : Int32) : Nat → Int32 → Int32 → Int32 → Int32 → Int32 → (Nat → Int32) → (Nat → Int32) → Int32 × Int32 × Int32 × Int32 × (Nat → Int32) × (Nat → Int32)
  | 0, _, _, _, _, _, _, _ => (0, 0, 0, 0, (fun _ => 0), (fun _ => 0))
  | n + 1, i2, i3, w3_h, w4_h, w2_script_conditions_h, g_script_conditions_a_steps, g_script_conditions_a_values =>
    if 2000 ≤ i3 then (0, w3_h, w4_h, w2_script_conditions_h, g_script_conditions_a_steps, g_script_conditions_a_values)
    else let r1 := (s_Par_kind script_tokens_f_kinds w3_h);
    if i2 = 0 then (if r1 = 14 then (let r2 := (s_Par_takeJoint w3_h w4_h);
        if r2.1 = 0 then (0, r2.2.1, r2.2.2, w2_script_conditions_h, g_script_conditions_a_steps, g_script_conditions_a_values)
        else let r3 := (tru script_tokens_f_kinds script_tokens_f_values g_script_conditions_a_steps g_script_conditions_a_values w2_script_conditions_h script_f_letOfLetter r2.2.1 r2.2.2 x);
        if r3.1 = 0 then (0, r3.2.1, r3.2.2.1, r3.2.2.2.1, r3.2.2.2.2.1, r3.2.2.2.2.2)
        else if r1 = 14 then (let r4 := (s_Cond_add r3.2.2.2.2.1 r3.2.2.2.2.2 r3.2.2.2.1 14 0);
          (lp_Par_condition_14 tru script_tokens_f_kinds script_tokens_f_values script_f_letOfLetter x n i2 (i3 + 1) r3.2.1 r3.2.2.1 r4.1 r4.2.1 r4.2.2))
        else (lp_Par_condition_14 tru script_tokens_f_kinds script_tokens_f_values script_f_letOfLetter x n (1 : Int32) (i3 + 1) r3.2.1 r3.2.2.1 r3.2.2.2.1 r3.2.2.2.2.1 r3.2.2.2.2.2))
      else if r1 = 15 then (let r5 := (s_Par_takeJoint w3_h w4_h);
        if r5.1 = 0 then (0, r5.2.1, r5.2.2, w2_script_conditions_h, g_script_conditions_a_steps, g_script_conditions_a_values)
        else let r6 := (tru script_tokens_f_kinds script_tokens_f_values g_script_conditions_a_steps g_script_conditions_a_values w2_script_conditions_h script_f_letOfLetter r5.2.1 r5.2.2 x);
        if r6.1 = 0 then (0, r6.2.1, r6.2.2.1, r6.2.2.2.1, r6.2.2.2.2.1, r6.2.2.2.2.2)
        else if r1 = 14 then (let r7 := (s_Cond_add r6.2.2.2.2.1 r6.2.2.2.2.2 r6.2.2.2.1 14 0);
          (lp_Par_condition_14 tru script_tokens_f_kinds script_tokens_f_values script_f_letOfLetter x n i2 (i3 + 1) r6.2.1 r6.2.2.1 r7.1 r7.2.1 r7.2.2))
        else (lp_Par_condition_14 tru script_tokens_f_kinds script_tokens_f_values script_f_letOfLetter x n (1 : Int32) (i3 + 1) r6.2.1 r6.2.2.1 r6.2.2.2.1 r6.2.2.2.2.1 r6.2.2.2.2.2))
      else (1, w3_h, w4_h, w2_script_conditions_h, g_script_conditions_a_steps, g_script_conditions_a_values))
    else if r1 = 14 then (if r1 = 14 then (let r8 := (s_Par_takeJoint w3_h w4_h);
        if r8.1 = 0 then (0, r8.2.1, r8.2.2, w2_script_conditions_h, g_script_conditions_a_steps, g_script_conditions_a_values)
        else let r9 := (tru script_tokens_f_kinds script_tokens_f_values g_script_conditions_a_steps g_script_conditions_a_values w2_script_conditions_h script_f_letOfLetter r8.2.1 r8.2.2 x);
        if r9.1 = 0 then (0, r9.2.1, r9.2.2.1, r9.2.2.2.1, r9.2.2.2.2.1, r9.2.2.2.2.2)
        else if r1 = 14 then (let r10 := (s_Cond_add r9.2.2.2.2.1 r9.2.2.2.2.2 r9.2.2.2.1 14 0);
          (lp_Par_condition_14 tru script_tokens_f_kinds script_tokens_f_values script_f_letOfLetter x n i2 (i3 + 1) r9.2.1 r9.2.2.1 r10.1 r10.2.1 r10.2.2))
        else (lp_Par_condition_14 tru script_tokens_f_kinds script_tokens_f_values script_f_letOfLetter x n (1 : Int32) (i3 + 1) r9.2.1 r9.2.2.1 r9.2.2.2.1 r9.2.2.2.2.1 r9.2.2.2.2.2))
      else if r1 = 15 then (let r11 := (s_Par_takeJoint w3_h w4_h);
        if r11.1 = 0 then (0, r11.2.1, r11.2.2, w2_script_conditions_h, g_script_conditions_a_steps, g_script_conditions_a_values)
        else let r12 := (tru script_tokens_f_kinds script_tokens_f_values g_script_conditions_a_steps g_script_conditions_a_values w2_script_conditions_h script_f_letOfLetter r11.2.1 r11.2.2 x);
        if r12.1 = 0 then (0, r12.2.1, r12.2.2.1, r12.2.2.2.1, r12.2.2.2.2.1, r12.2.2.2.2.2)
        else if r1 = 14 then (let r13 := (s_Cond_add r12.2.2.2.2.1 r12.2.2.2.2.2 r12.2.2.2.1 14 0);
          (lp_Par_condition_14 tru script_tokens_f_kinds script_tokens_f_values script_f_letOfLetter x n i2 (i3 + 1) r12.2.1 r12.2.2.1 r13.1 r13.2.1 r13.2.2))
        else (lp_Par_condition_14 tru script_tokens_f_kinds script_tokens_f_values script_f_letOfLetter x n (1 : Int32) (i3 + 1) r12.2.1 r12.2.2.1 r12.2.2.2.1 r12.2.2.2.2.1 r12.2.2.2.2.2))
      else (1, w3_h, w4_h, w2_script_conditions_h, g_script_conditions_a_steps, g_script_conditions_a_values))
    else let r14 := (s_Cond_add g_script_conditions_a_steps g_script_conditions_a_values w2_script_conditions_h 15 0);
    if r1 = 14 then (let r15 := (s_Par_takeJoint w3_h w4_h);
      if r15.1 = 0 then (0, r15.2.1, r15.2.2, r14.1, r14.2.1, r14.2.2)
      else let r16 := (tru script_tokens_f_kinds script_tokens_f_values r14.2.1 r14.2.2 r14.1 script_f_letOfLetter r15.2.1 r15.2.2 x);
      if r16.1 = 0 then (0, r16.2.1, r16.2.2.1, r16.2.2.2.1, r16.2.2.2.2.1, r16.2.2.2.2.2)
      else if r1 = 14 then (let r17 := (s_Cond_add r16.2.2.2.2.1 r16.2.2.2.2.2 r16.2.2.2.1 14 0);
        (lp_Par_condition_14 tru script_tokens_f_kinds script_tokens_f_values script_f_letOfLetter x n i2 (i3 + 1) r16.2.1 r16.2.2.1 r17.1 r17.2.1 r17.2.2))
      else (lp_Par_condition_14 tru script_tokens_f_kinds script_tokens_f_values script_f_letOfLetter x n (1 : Int32) (i3 + 1) r16.2.1 r16.2.2.1 r16.2.2.2.1 r16.2.2.2.2.1 r16.2.2.2.2.2))
    else if r1 = 15 then (let r18 := (s_Par_takeJoint w3_h w4_h);
      if r18.1 = 0 then (0, r18.2.1, r18.2.2, r14.1, r14.2.1, r14.2.2)
      else let r19 := (tru script_tokens_f_kinds script_tokens_f_values r14.2.1 r14.2.2 r14.1 script_f_letOfLetter r18.2.1 r18.2.2 x);
      if r19.1 = 0 then (0, r19.2.1, r19.2.2.1, r19.2.2.2.1, r19.2.2.2.2.1, r19.2.2.2.2.2)
      else if r1 = 14 then (let r20 := (s_Cond_add r19.2.2.2.2.1 r19.2.2.2.2.2 r19.2.2.2.1 14 0);
        (lp_Par_condition_14 tru script_tokens_f_kinds script_tokens_f_values script_f_letOfLetter x n i2 (i3 + 1) r19.2.1 r19.2.2.1 r20.1 r20.2.1 r20.2.2))
      else (lp_Par_condition_14 tru script_tokens_f_kinds script_tokens_f_values script_f_letOfLetter x n (1 : Int32) (i3 + 1) r19.2.1 r19.2.2.1 r19.2.2.2.1 r19.2.2.2.2.1 r19.2.2.2.2.2))
    else (1, w3_h, w4_h, r14.1, r14.2.1, r14.2.2)
def oklp_Par_condition_14 (tru : RcF) (oktru : RcO) (script_tokens_f_kinds : Nat → Int32) (script_tokens_f_values : Nat → Int32) (script_f_letOfLetter : Nat → Int32) (x : Int32) : Nat → Int32 → Int32 → Int32 → Int32 → Int32 → (Nat → Int32) → (Nat → Int32) → Prop
  | 0, _, _, _, _, _, _, _ => False
  | n + 1, i2, i3, w3_h, w4_h, w2_script_conditions_h, g_script_conditions_a_steps, g_script_conditions_a_values =>
    if 2000 ≤ i3 then (True)
    else (let r1 := (s_Par_kind script_tokens_f_kinds w3_h);
    (up w3_h 2001) ∧ (if i2 = 0 then (if r1 = 14 then (let r2 := (s_Par_takeJoint w3_h w4_h);
        if r2.1 = 0 then (True)
        else (let r3 := (tru script_tokens_f_kinds script_tokens_f_values g_script_conditions_a_steps g_script_conditions_a_values w2_script_conditions_h script_f_letOfLetter r2.2.1 r2.2.2 x);
        (oktru script_tokens_f_kinds script_tokens_f_values g_script_conditions_a_steps g_script_conditions_a_values w2_script_conditions_h script_f_letOfLetter r2.2.1 r2.2.2 x) ∧ (if r3.1 = 0 then (True)
        else (if r1 = 14 then (let r4 := (s_Cond_add r3.2.2.2.2.1 r3.2.2.2.2.2 r3.2.2.2.1 14 0);
          (up r3.2.2.2.1 2000) ∧ ((oklp_Par_condition_14 tru oktru script_tokens_f_kinds script_tokens_f_values script_f_letOfLetter x n i2 (i3 + 1) r3.2.1 r3.2.2.1 r4.1 r4.2.1 r4.2.2)))
        else ((oklp_Par_condition_14 tru oktru script_tokens_f_kinds script_tokens_f_values script_f_letOfLetter x n (1 : Int32) (i3 + 1) r3.2.1 r3.2.2.1 r3.2.2.2.1 r3.2.2.2.2.1 r3.2.2.2.2.2))))))
      else (if r1 = 15 then (let r5 := (s_Par_takeJoint w3_h w4_h);
        if r5.1 = 0 then (True)
        else (let r6 := (tru script_tokens_f_kinds script_tokens_f_values g_script_conditions_a_steps g_script_conditions_a_values w2_script_conditions_h script_f_letOfLetter r5.2.1 r5.2.2 x);
        (oktru script_tokens_f_kinds script_tokens_f_values g_script_conditions_a_steps g_script_conditions_a_values w2_script_conditions_h script_f_letOfLetter r5.2.1 r5.2.2 x) ∧ (if r6.1 = 0 then (True)
        else (if r1 = 14 then (let r7 := (s_Cond_add r6.2.2.2.2.1 r6.2.2.2.2.2 r6.2.2.2.1 14 0);
          (up r6.2.2.2.1 2000) ∧ ((oklp_Par_condition_14 tru oktru script_tokens_f_kinds script_tokens_f_values script_f_letOfLetter x n i2 (i3 + 1) r6.2.1 r6.2.2.1 r7.1 r7.2.1 r7.2.2)))
        else ((oklp_Par_condition_14 tru oktru script_tokens_f_kinds script_tokens_f_values script_f_letOfLetter x n (1 : Int32) (i3 + 1) r6.2.1 r6.2.2.1 r6.2.2.2.1 r6.2.2.2.2.1 r6.2.2.2.2.2))))))
      else (True)))
    else (if r1 = 14 then (if r1 = 14 then (let r8 := (s_Par_takeJoint w3_h w4_h);
        if r8.1 = 0 then (True)
        else (let r9 := (tru script_tokens_f_kinds script_tokens_f_values g_script_conditions_a_steps g_script_conditions_a_values w2_script_conditions_h script_f_letOfLetter r8.2.1 r8.2.2 x);
        (oktru script_tokens_f_kinds script_tokens_f_values g_script_conditions_a_steps g_script_conditions_a_values w2_script_conditions_h script_f_letOfLetter r8.2.1 r8.2.2 x) ∧ (if r9.1 = 0 then (True)
        else (if r1 = 14 then (let r10 := (s_Cond_add r9.2.2.2.2.1 r9.2.2.2.2.2 r9.2.2.2.1 14 0);
          (up r9.2.2.2.1 2000) ∧ ((oklp_Par_condition_14 tru oktru script_tokens_f_kinds script_tokens_f_values script_f_letOfLetter x n i2 (i3 + 1) r9.2.1 r9.2.2.1 r10.1 r10.2.1 r10.2.2)))
        else ((oklp_Par_condition_14 tru oktru script_tokens_f_kinds script_tokens_f_values script_f_letOfLetter x n (1 : Int32) (i3 + 1) r9.2.1 r9.2.2.1 r9.2.2.2.1 r9.2.2.2.2.1 r9.2.2.2.2.2))))))
      else (if r1 = 15 then (let r11 := (s_Par_takeJoint w3_h w4_h);
        if r11.1 = 0 then (True)
        else (let r12 := (tru script_tokens_f_kinds script_tokens_f_values g_script_conditions_a_steps g_script_conditions_a_values w2_script_conditions_h script_f_letOfLetter r11.2.1 r11.2.2 x);
        (oktru script_tokens_f_kinds script_tokens_f_values g_script_conditions_a_steps g_script_conditions_a_values w2_script_conditions_h script_f_letOfLetter r11.2.1 r11.2.2 x) ∧ (if r12.1 = 0 then (True)
        else (if r1 = 14 then (let r13 := (s_Cond_add r12.2.2.2.2.1 r12.2.2.2.2.2 r12.2.2.2.1 14 0);
          (up r12.2.2.2.1 2000) ∧ ((oklp_Par_condition_14 tru oktru script_tokens_f_kinds script_tokens_f_values script_f_letOfLetter x n i2 (i3 + 1) r12.2.1 r12.2.2.1 r13.1 r13.2.1 r13.2.2)))
        else ((oklp_Par_condition_14 tru oktru script_tokens_f_kinds script_tokens_f_values script_f_letOfLetter x n (1 : Int32) (i3 + 1) r12.2.1 r12.2.2.1 r12.2.2.2.1 r12.2.2.2.2.1 r12.2.2.2.2.2))))))
      else (True)))
    else (let r14 := (s_Cond_add g_script_conditions_a_steps g_script_conditions_a_values w2_script_conditions_h 15 0);
    (up w2_script_conditions_h 2000) ∧ (if r1 = 14 then (let r15 := (s_Par_takeJoint w3_h w4_h);
      if r15.1 = 0 then (True)
      else (let r16 := (tru script_tokens_f_kinds script_tokens_f_values r14.2.1 r14.2.2 r14.1 script_f_letOfLetter r15.2.1 r15.2.2 x);
      (oktru script_tokens_f_kinds script_tokens_f_values r14.2.1 r14.2.2 r14.1 script_f_letOfLetter r15.2.1 r15.2.2 x) ∧ (if r16.1 = 0 then (True)
      else (if r1 = 14 then (let r17 := (s_Cond_add r16.2.2.2.2.1 r16.2.2.2.2.2 r16.2.2.2.1 14 0);
        (up r16.2.2.2.1 2000) ∧ ((oklp_Par_condition_14 tru oktru script_tokens_f_kinds script_tokens_f_values script_f_letOfLetter x n i2 (i3 + 1) r16.2.1 r16.2.2.1 r17.1 r17.2.1 r17.2.2)))
      else ((oklp_Par_condition_14 tru oktru script_tokens_f_kinds script_tokens_f_values script_f_letOfLetter x n (1 : Int32) (i3 + 1) r16.2.1 r16.2.2.1 r16.2.2.2.1 r16.2.2.2.2.1 r16.2.2.2.2.2))))))
    else (if r1 = 15 then (let r18 := (s_Par_takeJoint w3_h w4_h);
      if r18.1 = 0 then (True)
      else (let r19 := (tru script_tokens_f_kinds script_tokens_f_values r14.2.1 r14.2.2 r14.1 script_f_letOfLetter r18.2.1 r18.2.2 x);
      (oktru script_tokens_f_kinds script_tokens_f_values r14.2.1 r14.2.2 r14.1 script_f_letOfLetter r18.2.1 r18.2.2 x) ∧ (if r19.1 = 0 then (True)
      else (if r1 = 14 then (let r20 := (s_Cond_add r19.2.2.2.2.1 r19.2.2.2.2.2 r19.2.2.2.1 14 0);
        (up r19.2.2.2.1 2000) ∧ ((oklp_Par_condition_14 tru oktru script_tokens_f_kinds script_tokens_f_values script_f_letOfLetter x n i2 (i3 + 1) r19.2.1 r19.2.2.1 r20.1 r20.2.1 r20.2.2)))
      else ((oklp_Par_condition_14 tru oktru script_tokens_f_kinds script_tokens_f_values script_f_letOfLetter x n (1 : Int32) (i3 + 1) r19.2.1 r19.2.2.1 r19.2.2.2.1 r19.2.2.2.2.1 r19.2.2.2.2.2))))))
    else (True)))))))
def s_Par_condition (tru : RcF) (script_tokens_f_kinds : Nat → Int32) (script_tokens_f_values : Nat → Int32) (script_conditions_f_steps : Nat → Int32) (script_conditions_f_values : Nat → Int32) (script_conditions__size : Int32) (script_f_letOfLetter : Nat → Int32) (v_at : Int32) (v_joints : Int32) (x : Int32) : Int32 × Int32 × Int32 × Int32 × (Nat → Int32) × (Nat → Int32) :=
  let r1 := (tru script_tokens_f_kinds script_tokens_f_values script_conditions_f_steps script_conditions_f_values script_conditions__size script_f_letOfLetter v_at v_joints x);
  if r1.1 = 0 then (0, r1.2.1, r1.2.2.1, r1.2.2.2.1, r1.2.2.2.2.1, r1.2.2.2.2.2)
  else (lp_Par_condition_14 tru script_tokens_f_kinds script_tokens_f_values script_f_letOfLetter x 2001 (0 : Int32) (0 : Int32) r1.2.1 r1.2.2.1 r1.2.2.2.1 r1.2.2.2.2.1 r1.2.2.2.2.2)
def ok_Par_condition (tru : RcF) (oktru : RcO) (script_tokens_f_kinds : Nat → Int32) (script_tokens_f_values : Nat → Int32) (script_conditions_f_steps : Nat → Int32) (script_conditions_f_values : Nat → Int32) (script_conditions__size : Int32) (script_f_letOfLetter : Nat → Int32) (v_at : Int32) (v_joints : Int32) (x : Int32) : Prop :=
  let r1 := (tru script_tokens_f_kinds script_tokens_f_values script_conditions_f_steps script_conditions_f_values script_conditions__size script_f_letOfLetter v_at v_joints x);
  (oktru script_tokens_f_kinds script_tokens_f_values script_conditions_f_steps script_conditions_f_values script_conditions__size script_f_letOfLetter v_at v_joints x) ∧ (if r1.1 = 0 then (True)
  else ((oklp_Par_condition_14 tru oktru script_tokens_f_kinds script_tokens_f_values script_f_letOfLetter x 2001 (0 : Int32) (0 : Int32) r1.2.1 r1.2.2.1 r1.2.2.2.1 r1.2.2.2.2.1 r1.2.2.2.2.2)))
def s_Par_truth (tru : RcF) (con : RcF) (sm : RcF) (script_tokens_f_kinds : Nat → Int32) (script_tokens_f_values : Nat → Int32) (script_conditions_f_steps : Nat → Int32) (script_conditions_f_values : Nat → Int32) (script_conditions__size : Int32) (script_f_letOfLetter : Nat → Int32) (v_at : Int32) (v_joints : Int32) (x : Int32) : Int32 × Int32 × Int32 × Int32 × (Nat → Int32) × (Nat → Int32) :=
  let r1 := (s_Par_kind script_tokens_f_kinds v_at);
  if r1 = 16 then (let r14 := (s_Par_takeDeeper v_at x);
    if r14.1 = 0 then (0, r14.2, v_joints, script_conditions__size, script_conditions_f_steps, script_conditions_f_values)
    else let r15 := (tru script_tokens_f_kinds script_tokens_f_values script_conditions_f_steps script_conditions_f_values script_conditions__size script_f_letOfLetter r14.2 v_joints (x + 1));
    if r15.1 = 0 then (0, r15.2.1, r15.2.2.1, r15.2.2.2.1, r15.2.2.2.2.1, r15.2.2.2.2.2)
    else let r16 := (s_Cond_add r15.2.2.2.2.1 r15.2.2.2.2.2 r15.2.2.2.1 16 0);
    (1, r15.2.1, r15.2.2.1, r16.1, r16.2.1, r16.2.2))
  else if r1 = 29 then (let r11 := (s_Par_takeDeeper v_at x);
    if r11.1 = 0 then (0, r11.2, v_joints, script_conditions__size, script_conditions_f_steps, script_conditions_f_values)
    else let r12 := (con script_tokens_f_kinds script_tokens_f_values script_conditions_f_steps script_conditions_f_values script_conditions__size script_f_letOfLetter r11.2 v_joints (x + 1));
    if r12.1 = 0 then (0, r12.2.1, r12.2.2.1, r12.2.2.2.1, r12.2.2.2.2.1, r12.2.2.2.2.2)
    else let r13 := (s_Par_take script_tokens_f_kinds r12.2.1 30);
    if r13.1 = 0 then (0, r13.2, r12.2.2.1, r12.2.2.2.1, r12.2.2.2.2.1, r12.2.2.2.2.2)
    else (1, r13.2, r12.2.2.1, r12.2.2.2.1, r12.2.2.2.2.1, r12.2.2.2.2.2))
  else if r1 = 4 then (let r7 := (s_Par_value script_tokens_f_values v_at);
    let r8 := (s_Scr_letOf script_f_letOfLetter r7);
    let r9 := (s_Cond_add script_conditions_f_steps script_conditions_f_values script_conditions__size 4 r8);
    if r8 = (-1) then (0, v_at, v_joints, r9.1, r9.2.1, r9.2.2)
    else let r10 := (s_Par_takeJoint v_at v_joints);
    if r10.1 = 0 then (0, r10.2.1, r10.2.2, r9.1, r9.2.1, r9.2.2)
    else (1, r10.2.1, r10.2.2, r9.1, r9.2.1, r9.2.2))
  else let r2 := (sm script_tokens_f_kinds script_tokens_f_values script_conditions_f_steps script_conditions_f_values script_conditions__size script_f_letOfLetter v_at v_joints x);
  if r2.1 = 0 then (0, r2.2.1, r2.2.2.1, r2.2.2.2.1, r2.2.2.2.2.1, r2.2.2.2.2.2)
  else let r3 := (s_Par_kind script_tokens_f_kinds r2.2.1);
  if r3 < 17 then (0, r2.2.1, r2.2.2.1, r2.2.2.2.1, r2.2.2.2.2.1, r2.2.2.2.2.2)
  else if 22 < r3 then (0, r2.2.1, r2.2.2.1, r2.2.2.2.1, r2.2.2.2.2.1, r2.2.2.2.2.2)
  else let r4 := (s_Par_takeJoint r2.2.1 r2.2.2.1);
  if r4.1 = 0 then (0, r4.2.1, r4.2.2, r2.2.2.2.1, r2.2.2.2.2.1, r2.2.2.2.2.2)
  else let r5 := (sm script_tokens_f_kinds script_tokens_f_values r2.2.2.2.2.1 r2.2.2.2.2.2 r2.2.2.2.1 script_f_letOfLetter r4.2.1 r4.2.2 x);
  if r5.1 = 0 then (0, r5.2.1, r5.2.2.1, r5.2.2.2.1, r5.2.2.2.2.1, r5.2.2.2.2.2)
  else let r6 := (s_Cond_add r5.2.2.2.2.1 r5.2.2.2.2.2 r5.2.2.2.1 r3 0);
  (1, r5.2.1, r5.2.2.1, r6.1, r6.2.1, r6.2.2)
def ok_Par_truth (tru : RcF) (oktru : RcO) (con : RcF) (okcon : RcO) (sm : RcF) (oksm : RcO) (script_tokens_f_kinds : Nat → Int32) (script_tokens_f_values : Nat → Int32) (script_conditions_f_steps : Nat → Int32) (script_conditions_f_values : Nat → Int32) (script_conditions__size : Int32) (script_f_letOfLetter : Nat → Int32) (v_at : Int32) (v_joints : Int32) (x : Int32) : Prop :=
  let r1 := (s_Par_kind script_tokens_f_kinds v_at);
  (up v_at 2001) ∧ (if r1 = 16 then (let r14 := (s_Par_takeDeeper v_at x);
    if r14.1 = 0 then (True)
    else (let r15 := (tru script_tokens_f_kinds script_tokens_f_values script_conditions_f_steps script_conditions_f_values script_conditions__size script_f_letOfLetter r14.2 v_joints (x + 1));
    (oktru script_tokens_f_kinds script_tokens_f_values script_conditions_f_steps script_conditions_f_values script_conditions__size script_f_letOfLetter r14.2 v_joints (x + 1)) ∧ (if r15.1 = 0 then (True)
    else (let r16 := (s_Cond_add r15.2.2.2.2.1 r15.2.2.2.2.2 r15.2.2.2.1 16 0);
    (up r15.2.2.2.1 2000) ∧ (True)))))
  else (if r1 = 29 then (let r11 := (s_Par_takeDeeper v_at x);
    if r11.1 = 0 then (True)
    else (let r12 := (con script_tokens_f_kinds script_tokens_f_values script_conditions_f_steps script_conditions_f_values script_conditions__size script_f_letOfLetter r11.2 v_joints (x + 1));
    (okcon script_tokens_f_kinds script_tokens_f_values script_conditions_f_steps script_conditions_f_values script_conditions__size script_f_letOfLetter r11.2 v_joints (x + 1)) ∧ (if r12.1 = 0 then (True)
    else (let r13 := (s_Par_take script_tokens_f_kinds r12.2.1 30);
    (up r12.2.1 2001) ∧ (if r13.1 = 0 then (True)
    else (True))))))
  else (if r1 = 4 then (let r7 := (s_Par_value script_tokens_f_values v_at);
    (up v_at 2001) ∧ (let r8 := (s_Scr_letOf script_f_letOfLetter r7);
    let r9 := (s_Cond_add script_conditions_f_steps script_conditions_f_values script_conditions__size 4 r8);
    (up script_conditions__size 2000) ∧ (if r8 = (-1) then (True)
    else (let r10 := (s_Par_takeJoint v_at v_joints);
    if r10.1 = 0 then (True)
    else (True)))))
  else (let r2 := (sm script_tokens_f_kinds script_tokens_f_values script_conditions_f_steps script_conditions_f_values script_conditions__size script_f_letOfLetter v_at v_joints x);
  (oksm script_tokens_f_kinds script_tokens_f_values script_conditions_f_steps script_conditions_f_values script_conditions__size script_f_letOfLetter v_at v_joints x) ∧ (if r2.1 = 0 then (True)
  else (let r3 := (s_Par_kind script_tokens_f_kinds r2.2.1);
  (up r2.2.1 2001) ∧ (if r3 < 17 then (True)
  else (if 22 < r3 then (True)
  else (let r4 := (s_Par_takeJoint r2.2.1 r2.2.2.1);
  if r4.1 = 0 then (True)
  else (let r5 := (sm script_tokens_f_kinds script_tokens_f_values r2.2.2.2.2.1 r2.2.2.2.2.2 r2.2.2.2.1 script_f_letOfLetter r4.2.1 r4.2.2 x);
  (oksm script_tokens_f_kinds script_tokens_f_values r2.2.2.2.2.1 r2.2.2.2.2.2 r2.2.2.2.1 script_f_letOfLetter r4.2.1 r4.2.2 x) ∧ (if r5.1 = 0 then (True)
  else (let r6 := (s_Cond_add r5.2.2.2.2.1 r5.2.2.2.2.2 r5.2.2.2.1 r3 0);
  (up r5.2.2.2.1 2000) ∧ (True)))))))))))))
def B_sum (fac : RcF) : RcF := fun script_tokens_f_kinds script_tokens_f_values script_conditions_f_steps script_conditions_f_values script_conditions__size script_f_letOfLetter v_at v_joints x => (s_Par_sum fac script_tokens_f_kinds script_tokens_f_values script_conditions_f_steps script_conditions_f_values script_conditions__size script_f_letOfLetter v_at v_joints x)
def okB_sum (fac : RcF) (okfac : RcO) : RcO := fun script_tokens_f_kinds script_tokens_f_values script_conditions_f_steps script_conditions_f_values script_conditions__size script_f_letOfLetter v_at v_joints x => ok_Par_sum fac okfac script_tokens_f_kinds script_tokens_f_values script_conditions_f_steps script_conditions_f_values script_conditions__size script_f_letOfLetter v_at v_joints x
def B_fac (fac : RcF) (sm : RcF) : RcF := fun script_tokens_f_kinds script_tokens_f_values script_conditions_f_steps script_conditions_f_values script_conditions__size script_f_letOfLetter v_at v_joints x => (s_Par_factor fac sm script_tokens_f_kinds script_tokens_f_values script_conditions_f_steps script_conditions_f_values script_conditions__size script_f_letOfLetter v_at v_joints x)
def okB_fac (fac : RcF) (okfac : RcO) (sm : RcF) (oksm : RcO) : RcO := fun script_tokens_f_kinds script_tokens_f_values script_conditions_f_steps script_conditions_f_values script_conditions__size script_f_letOfLetter v_at v_joints x => ok_Par_factor fac okfac sm oksm script_tokens_f_kinds script_tokens_f_values script_conditions_f_steps script_conditions_f_values script_conditions__size script_f_letOfLetter v_at v_joints x
def B_con (tru : RcF) : RcF := fun script_tokens_f_kinds script_tokens_f_values script_conditions_f_steps script_conditions_f_values script_conditions__size script_f_letOfLetter v_at v_joints x => (s_Par_condition tru script_tokens_f_kinds script_tokens_f_values script_conditions_f_steps script_conditions_f_values script_conditions__size script_f_letOfLetter v_at v_joints x)
def okB_con (tru : RcF) (oktru : RcO) : RcO := fun script_tokens_f_kinds script_tokens_f_values script_conditions_f_steps script_conditions_f_values script_conditions__size script_f_letOfLetter v_at v_joints x => ok_Par_condition tru oktru script_tokens_f_kinds script_tokens_f_values script_conditions_f_steps script_conditions_f_values script_conditions__size script_f_letOfLetter v_at v_joints x
def B_tru (tru : RcF) (con : RcF) (sm : RcF) : RcF := fun script_tokens_f_kinds script_tokens_f_values script_conditions_f_steps script_conditions_f_values script_conditions__size script_f_letOfLetter v_at v_joints x => (s_Par_truth tru con sm script_tokens_f_kinds script_tokens_f_values script_conditions_f_steps script_conditions_f_values script_conditions__size script_f_letOfLetter v_at v_joints x)
def okB_tru (tru : RcF) (oktru : RcO) (con : RcF) (okcon : RcO) (sm : RcF) (oksm : RcO) : RcO := fun script_tokens_f_kinds script_tokens_f_values script_conditions_f_steps script_conditions_f_values script_conditions__size script_f_letOfLetter v_at v_joints x => ok_Par_truth tru oktru con okcon sm oksm script_tokens_f_kinds script_tokens_f_values script_conditions_f_steps script_conditions_f_values script_conditions__size script_f_letOfLetter v_at v_joints x
def K_fac : Nat → RcF
  | 0 => fun _ _ script_conditions_f_steps script_conditions_f_values script_conditions__size _ v_at v_joints _ => (0, v_at, v_joints, script_conditions__size, script_conditions_f_steps, script_conditions_f_values)
  | k + 1 => B_fac (K_fac k) (B_sum (K_fac k))
def okK_fac : Nat → RcO
  | 0 => fun _ _ _ _ _ _ _ _ _ => False
  | k + 1 => okB_fac (K_fac k) (okK_fac k) (B_sum (K_fac k)) (okB_sum (K_fac k) (okK_fac k))
def K_sum (k : Nat) : RcF := B_sum (K_fac k)
def okK_sum (k : Nat) : RcO := okB_sum (K_fac k) (okK_fac k)
def K_tru : Nat → RcF
  | 0 => fun _ _ script_conditions_f_steps script_conditions_f_values script_conditions__size _ v_at v_joints _ => (0, v_at, v_joints, script_conditions__size, script_conditions_f_steps, script_conditions_f_values)
  | k + 1 => B_tru (K_tru k) (B_con (K_tru k)) (K_sum (k + 1))
def okK_tru : Nat → RcO
  | 0 => fun _ _ _ _ _ _ _ _ _ => False
  | k + 1 => okB_tru (K_tru k) (okK_tru k) (B_con (K_tru k)) (okB_con (K_tru k) (okK_tru k)) (K_sum (k + 1)) (okK_sum (k + 1))
def K_con (k : Nat) : RcF := B_con (K_tru k)
def okK_con (k : Nat) : RcO := okB_con (K_tru k) (okK_tru k)
def s_Par_let (script_tokens_f_kinds : Nat → Int32) (script_tokens_f_values : Nat → Int32) (script_conditions_f_steps : Nat → Int32) (script_conditions_f_values : Nat → Int32) (script_conditions__size : Int32) (script_f_letStarts : Nat → Int32) (script_f_letEnds : Nat → Int32) (script_f_letOfLetter : Nat → Int32) (script__lets : Int32) (v_at : Int32) (v_joints : Int32) : Int32 × Int32 × Int32 × Int32 × Int32 × (Nat → Int32) × (Nat → Int32) × (Nat → Int32) × (Nat → Int32) × (Nat → Int32) :=
  if script__lets < 10 then (let r1 := (s_Par_value script_tokens_f_values (v_at + 1));
    let r2 := (s_Par_kind script_tokens_f_kinds (v_at + 1));
    if r2 = 4 then (let r3 := (s_Scr_letOf script_f_letOfLetter r1);
      if r3 = (-1) then (let r4 := (s_Par_take script_tokens_f_kinds ((v_at + 1) + 1) 22);
        if r4.1 = 0 then (0, r4.2, v_joints, script__lets, script_conditions__size, script_conditions_f_steps, script_conditions_f_values, script_f_letStarts, script_f_letEnds, script_f_letOfLetter)
        else let r5 := (K_con 22 script_tokens_f_kinds script_tokens_f_values script_conditions_f_steps script_conditions_f_values script_conditions__size script_f_letOfLetter r4.2 v_joints 0);
        if r5.1 = 0 then (0, r5.2.1, r5.2.2.1, script__lets, r5.2.2.2.1, r5.2.2.2.2.1, r5.2.2.2.2.2, script_f_letStarts, script_f_letEnds, script_f_letOfLetter)
        else let r6 := (s_Scr_addLet r5.2.2.2.1 script_f_letStarts script_f_letEnds script_f_letOfLetter script__lets r1 script_conditions__size);
        (1, r5.2.1, r5.2.2.1, r6.1, r5.2.2.2.1, r5.2.2.2.2.1, r5.2.2.2.2.2, r6.2.1, r6.2.2.1, r6.2.2.2))
      else (0, v_at + 1, v_joints, script__lets, script_conditions__size, script_conditions_f_steps, script_conditions_f_values, script_f_letStarts, script_f_letEnds, script_f_letOfLetter))
    else (0, v_at + 1, v_joints, script__lets, script_conditions__size, script_conditions_f_steps, script_conditions_f_values, script_f_letStarts, script_f_letEnds, script_f_letOfLetter))
  else (0, v_at, v_joints, script__lets, script_conditions__size, script_conditions_f_steps, script_conditions_f_values, script_f_letStarts, script_f_letEnds, script_f_letOfLetter)
def ok_Par_let (script_tokens_f_kinds : Nat → Int32) (script_tokens_f_values : Nat → Int32) (script_conditions_f_steps : Nat → Int32) (script_conditions_f_values : Nat → Int32) (script_conditions__size : Int32) (script_f_letStarts : Nat → Int32) (script_f_letEnds : Nat → Int32) (script_f_letOfLetter : Nat → Int32) (script__lets : Int32) (v_at : Int32) (v_joints : Int32) : Prop :=
  if script__lets < 10 then (let r1 := (s_Par_value script_tokens_f_values (v_at + 1));
    (up (v_at + 1) 2001) ∧ (let r2 := (s_Par_kind script_tokens_f_kinds (v_at + 1));
    (up (v_at + 1) 2001) ∧ (if r2 = 4 then (let r3 := (s_Scr_letOf script_f_letOfLetter r1);
      if r3 = (-1) then (let r4 := (s_Par_take script_tokens_f_kinds ((v_at + 1) + 1) 22);
        (up ((v_at + 1) + 1) 2001) ∧ (if r4.1 = 0 then (True)
        else (let r5 := (K_con 22 script_tokens_f_kinds script_tokens_f_values script_conditions_f_steps script_conditions_f_values script_conditions__size script_f_letOfLetter r4.2 v_joints 0);
        (okK_con 22 script_tokens_f_kinds script_tokens_f_values script_conditions_f_steps script_conditions_f_values script_conditions__size script_f_letOfLetter r4.2 v_joints 0) ∧ (if r5.1 = 0 then (True)
        else (let r6 := (s_Scr_addLet r5.2.2.2.1 script_f_letStarts script_f_letEnds script_f_letOfLetter script__lets r1 script_conditions__size);
        (ok_Scr_addLet script__lets r1) ∧ (True))))))
      else (True))
    else (True))))
  else (True)
def s_Par_asks (script_tokens_f_kinds : Nat → Int32) (script_tokens_f_values : Nat → Int32) (script_conditions_f_steps : Nat → Int32) (script_conditions_f_values : Nat → Int32) (script_conditions__size : Int32) (script_Q : Nat → Nat → Int32) (script__asked : Int32) (script_f_letOfLetter : Nat → Int32) (v_at : Int32) (v_joints : Int32) : Int32 × Int32 × Int32 × Int32 × Int32 × (Nat → Int32) × (Nat → Int32) × (Nat → Nat → Int32) :=
  if script__asked < 12 then (let r1 := (s_Par_head script_tokens_f_kinds script_tokens_f_values v_at (script_Q (s_qj script__asked) 0) (script_Q (s_qj script__asked) 1) (script_Q (s_qj script__asked) 2) (script_Q (s_qj script__asked) 3) (script_Q (s_qj script__asked) 4) (script_Q (s_qj script__asked) 5) (script_Q (s_qj script__asked) 6) (script_Q (s_qj script__asked) 7));
    if r1.1 = 0 then (0, r1.2.1, v_joints, script__asked, script_conditions__size, script_conditions_f_steps, script_conditions_f_values, updQ script_Q (s_qj script__asked) (qF r1.2.2.1 r1.2.2.2.1 r1.2.2.2.2.1 r1.2.2.2.2.2.1 r1.2.2.2.2.2.2.1 r1.2.2.2.2.2.2.2.1 r1.2.2.2.2.2.2.2.2.1 r1.2.2.2.2.2.2.2.2.2))
    else let r2 := (s_Par_take script_tokens_f_kinds r1.2.1 12);
    if r2.1 = 0 then (let r3 := (s_Par_take script_tokens_f_kinds r2.2 13);
      if r3.1 = 0 then (0, r3.2, v_joints, script__asked, script_conditions__size, script_conditions_f_steps, script_conditions_f_values, updQ script_Q (s_qj script__asked) (qF r1.2.2.1 r1.2.2.2.1 r1.2.2.2.2.1 r1.2.2.2.2.2.1 r1.2.2.2.2.2.2.1 r1.2.2.2.2.2.2.2.1 script_conditions__size script_conditions__size))
      else let r4 := (s_Par_isNumber script_tokens_f_kinds script_tokens_f_values r3.2 0 30);
      if r4 = 0 then (0, r3.2, v_joints, script__asked, script_conditions__size, script_conditions_f_steps, script_conditions_f_values, updQ script_Q (s_qj script__asked) (qF r1.2.2.1 r1.2.2.2.1 r1.2.2.2.2.1 r1.2.2.2.2.2.1 r1.2.2.2.2.2.2.1 r1.2.2.2.2.2.2.2.1 script_conditions__size script_conditions__size))
      else let r5 := (s_Par_value script_tokens_f_values r3.2);
      (1, r3.2 + 1, v_joints, if 12 < script__asked + 1 then 12 else script__asked + 1, script_conditions__size, script_conditions_f_steps, script_conditions_f_values, updQ script_Q (s_qj script__asked) (qF r1.2.2.1 r1.2.2.2.1 r1.2.2.2.2.1 r1.2.2.2.2.2.1 r1.2.2.2.2.2.2.1 r5 script_conditions__size script_conditions__size)))
    else let r6 := (K_con 22 script_tokens_f_kinds script_tokens_f_values script_conditions_f_steps script_conditions_f_values script_conditions__size script_f_letOfLetter r2.2 v_joints 0);
    if r6.1 = 0 then (0, r6.2.1, r6.2.2.1, script__asked, r6.2.2.2.1, r6.2.2.2.2.1, r6.2.2.2.2.2, updQ script_Q (s_qj script__asked) (qF r1.2.2.1 r1.2.2.2.1 r1.2.2.2.2.1 r1.2.2.2.2.2.1 r1.2.2.2.2.2.2.1 r1.2.2.2.2.2.2.2.1 script_conditions__size r1.2.2.2.2.2.2.2.2.2))
    else let r7 := (s_Par_take script_tokens_f_kinds r6.2.1 13);
    if r7.1 = 0 then (0, r7.2, r6.2.2.1, script__asked, r6.2.2.2.1, r6.2.2.2.2.1, r6.2.2.2.2.2, updQ script_Q (s_qj script__asked) (qF r1.2.2.1 r1.2.2.2.1 r1.2.2.2.2.1 r1.2.2.2.2.2.1 r1.2.2.2.2.2.2.1 r1.2.2.2.2.2.2.2.1 script_conditions__size r6.2.2.2.1))
    else let r8 := (s_Par_isNumber script_tokens_f_kinds script_tokens_f_values r7.2 0 30);
    if r8 = 0 then (0, r7.2, r6.2.2.1, script__asked, r6.2.2.2.1, r6.2.2.2.2.1, r6.2.2.2.2.2, updQ script_Q (s_qj script__asked) (qF r1.2.2.1 r1.2.2.2.1 r1.2.2.2.2.1 r1.2.2.2.2.2.1 r1.2.2.2.2.2.2.1 r1.2.2.2.2.2.2.2.1 script_conditions__size r6.2.2.2.1))
    else let r9 := (s_Par_value script_tokens_f_values r7.2);
    (1, r7.2 + 1, r6.2.2.1, if 12 < script__asked + 1 then 12 else script__asked + 1, r6.2.2.2.1, r6.2.2.2.2.1, r6.2.2.2.2.2, updQ script_Q (s_qj script__asked) (qF r1.2.2.1 r1.2.2.2.1 r1.2.2.2.2.1 r1.2.2.2.2.2.1 r1.2.2.2.2.2.2.1 r9 script_conditions__size r6.2.2.2.1)))
  else (0, v_at, v_joints, script__asked, script_conditions__size, script_conditions_f_steps, script_conditions_f_values, script_Q)
def ok_Par_asks (script_tokens_f_kinds : Nat → Int32) (script_tokens_f_values : Nat → Int32) (script_conditions_f_steps : Nat → Int32) (script_conditions_f_values : Nat → Int32) (script_conditions__size : Int32) (script_Q : Nat → Nat → Int32) (script__asked : Int32) (script_f_letOfLetter : Nat → Int32) (v_at : Int32) (v_joints : Int32) : Prop :=
  if script__asked < 12 then (let r1 := (s_Par_head script_tokens_f_kinds script_tokens_f_values v_at (script_Q (s_qj script__asked) 0) (script_Q (s_qj script__asked) 1) (script_Q (s_qj script__asked) 2) (script_Q (s_qj script__asked) 3) (script_Q (s_qj script__asked) 4) (script_Q (s_qj script__asked) 5) (script_Q (s_qj script__asked) 6) (script_Q (s_qj script__asked) 7));
    (up v_at 2001) ∧ (if r1.1 = 0 then (True)
    else (let r2 := (s_Par_take script_tokens_f_kinds r1.2.1 12);
    (up r1.2.1 2001) ∧ (if r2.1 = 0 then (let r3 := (s_Par_take script_tokens_f_kinds r2.2 13);
      if r3.1 = 0 then (True)
      else (let r4 := (s_Par_isNumber script_tokens_f_kinds script_tokens_f_values r3.2 0 30);
      if r4 = 0 then (True)
      else (let r5 := (s_Par_value script_tokens_f_values r3.2);
      True)))
    else (let r6 := (K_con 22 script_tokens_f_kinds script_tokens_f_values script_conditions_f_steps script_conditions_f_values script_conditions__size script_f_letOfLetter r2.2 v_joints 0);
    (okK_con 22 script_tokens_f_kinds script_tokens_f_values script_conditions_f_steps script_conditions_f_values script_conditions__size script_f_letOfLetter r2.2 v_joints 0) ∧ (if r6.1 = 0 then (True)
    else (let r7 := (s_Par_take script_tokens_f_kinds r6.2.1 13);
    (up r6.2.1 2001) ∧ (if r7.1 = 0 then (True)
    else (let r8 := (s_Par_isNumber script_tokens_f_kinds script_tokens_f_values r7.2 0 30);
    if r8 = 0 then (True)
    else (let r9 := (s_Par_value script_tokens_f_values r7.2);
    True))))))))))
  else (True)
def lp_Par_parse_2 (script_tokens_f_kinds : Nat → Int32) (script_tokens_f_values : Nat → Int32) (script_tokens_f_places : Nat → Int32) : Nat → Int32 → Int32 → Int32 → Int32 → Int32 → (Nat → Int32) → (Nat → Int32) → (Nat → Nat → Int32) → Int32 → (Nat → Int32) → (Nat → Int32) → (Nat → Int32) → Int32 × Int32 × Int32 × Int32 × Int32 × Int32 × (Nat → Int32) × (Nat → Int32) × (Nat → Int32) × (Nat → Int32) × (Nat → Int32) × (Nat → Nat → Int32)
  | 0, _, _, _, _, _, _, _, _, _, _, _, _ => (0, 0, 0, 0, 0, 0, (fun _ => 0), (fun _ => 0), (fun _ => 0), (fun _ => 0), (fun _ => 0), (fun _ _ => 0))
  | n + 1, i1, c3_h, c4_h, c3_script_h, c2_script_conditions_h, g_script_conditions_a_steps, g_script_conditions_a_values, gQ_script_qa, c7_script_h, g_script_a_letStarts, g_script_a_letEnds, g_script_a_letOfLetter =>
    if 22 < i1 then (if 2001 ≤ c3_h then (0, c3_h, c4_h, c3_script_h, c7_script_h, c2_script_conditions_h, g_script_conditions_a_steps, g_script_conditions_a_values, g_script_a_letStarts, g_script_a_letEnds, g_script_a_letOfLetter, gQ_script_qa)
      else (script_tokens_f_places c3_h.toNatClampNeg, c3_h, c4_h, c3_script_h, c7_script_h, c2_script_conditions_h, g_script_conditions_a_steps, g_script_conditions_a_values, g_script_a_letStarts, g_script_a_letEnds, g_script_a_letOfLetter, gQ_script_qa))
    else let r1 := (s_Par_kind script_tokens_f_kinds c3_h);
    if r1 = 5 then (let r5 := (s_Par_let script_tokens_f_kinds script_tokens_f_values g_script_conditions_a_steps g_script_conditions_a_values c2_script_conditions_h g_script_a_letStarts g_script_a_letEnds g_script_a_letOfLetter c7_script_h c3_h c4_h);
      if r5.1 = 0 then (if 2001 ≤ r5.2.1 then (0, r5.2.1, r5.2.2.1, c3_script_h, r5.2.2.2.1, r5.2.2.2.2.1, r5.2.2.2.2.2.1, r5.2.2.2.2.2.2.1, r5.2.2.2.2.2.2.2.1, r5.2.2.2.2.2.2.2.2.1, r5.2.2.2.2.2.2.2.2.2, gQ_script_qa)
        else (script_tokens_f_places r5.2.1.toNatClampNeg, r5.2.1, r5.2.2.1, c3_script_h, r5.2.2.2.1, r5.2.2.2.2.1, r5.2.2.2.2.2.1, r5.2.2.2.2.2.2.1, r5.2.2.2.2.2.2.2.1, r5.2.2.2.2.2.2.2.2.1, r5.2.2.2.2.2.2.2.2.2, gQ_script_qa))
      else let r6 := (s_Par_take script_tokens_f_kinds r5.2.1 26);
      if r6.1 = 0 then (if 2001 ≤ r6.2 then (0, r6.2, r5.2.2.1, c3_script_h, r5.2.2.2.1, r5.2.2.2.2.1, r5.2.2.2.2.2.1, r5.2.2.2.2.2.2.1, r5.2.2.2.2.2.2.2.1, r5.2.2.2.2.2.2.2.2.1, r5.2.2.2.2.2.2.2.2.2, gQ_script_qa)
        else (script_tokens_f_places r6.2.toNatClampNeg, r6.2, r5.2.2.1, c3_script_h, r5.2.2.2.1, r5.2.2.2.2.1, r5.2.2.2.2.2.1, r5.2.2.2.2.2.2.1, r5.2.2.2.2.2.2.2.1, r5.2.2.2.2.2.2.2.2.1, r5.2.2.2.2.2.2.2.2.2, gQ_script_qa))
      else let r7 := (s_Par_kind script_tokens_f_kinds r6.2);
      if r7 = 0 then ((-1), r6.2, r5.2.2.1, c3_script_h, r5.2.2.2.1, r5.2.2.2.2.1, r5.2.2.2.2.2.1, r5.2.2.2.2.2.2.1, r5.2.2.2.2.2.2.2.1, r5.2.2.2.2.2.2.2.2.1, r5.2.2.2.2.2.2.2.2.2, gQ_script_qa)
      else (lp_Par_parse_2 script_tokens_f_kinds script_tokens_f_values script_tokens_f_places n (i1 + 1) r6.2 r5.2.2.1 c3_script_h r5.2.2.2.2.1 r5.2.2.2.2.2.1 r5.2.2.2.2.2.2.1 gQ_script_qa r5.2.2.2.1 r5.2.2.2.2.2.2.2.1 r5.2.2.2.2.2.2.2.2.1 r5.2.2.2.2.2.2.2.2.2))
    else let r2 := (s_Par_asks script_tokens_f_kinds script_tokens_f_values g_script_conditions_a_steps g_script_conditions_a_values c2_script_conditions_h gQ_script_qa c3_script_h g_script_a_letOfLetter c3_h c4_h);
    if r2.1 = 0 then (if 2001 ≤ r2.2.1 then (0, r2.2.1, r2.2.2.1, r2.2.2.2.1, c7_script_h, r2.2.2.2.2.1, r2.2.2.2.2.2.1, r2.2.2.2.2.2.2.1, g_script_a_letStarts, g_script_a_letEnds, g_script_a_letOfLetter, r2.2.2.2.2.2.2.2)
      else (script_tokens_f_places r2.2.1.toNatClampNeg, r2.2.1, r2.2.2.1, r2.2.2.2.1, c7_script_h, r2.2.2.2.2.1, r2.2.2.2.2.2.1, r2.2.2.2.2.2.2.1, g_script_a_letStarts, g_script_a_letEnds, g_script_a_letOfLetter, r2.2.2.2.2.2.2.2))
    else let r3 := (s_Par_take script_tokens_f_kinds r2.2.1 26);
    if r3.1 = 0 then (if 2001 ≤ r3.2 then (0, r3.2, r2.2.2.1, r2.2.2.2.1, c7_script_h, r2.2.2.2.2.1, r2.2.2.2.2.2.1, r2.2.2.2.2.2.2.1, g_script_a_letStarts, g_script_a_letEnds, g_script_a_letOfLetter, r2.2.2.2.2.2.2.2)
      else (script_tokens_f_places r3.2.toNatClampNeg, r3.2, r2.2.2.1, r2.2.2.2.1, c7_script_h, r2.2.2.2.2.1, r2.2.2.2.2.2.1, r2.2.2.2.2.2.2.1, g_script_a_letStarts, g_script_a_letEnds, g_script_a_letOfLetter, r2.2.2.2.2.2.2.2))
    else let r4 := (s_Par_kind script_tokens_f_kinds r3.2);
    if r4 = 0 then ((-1), r3.2, r2.2.2.1, r2.2.2.2.1, c7_script_h, r2.2.2.2.2.1, r2.2.2.2.2.2.1, r2.2.2.2.2.2.2.1, g_script_a_letStarts, g_script_a_letEnds, g_script_a_letOfLetter, r2.2.2.2.2.2.2.2)
    else (lp_Par_parse_2 script_tokens_f_kinds script_tokens_f_values script_tokens_f_places n (i1 + 1) r3.2 r2.2.2.1 r2.2.2.2.1 r2.2.2.2.2.1 r2.2.2.2.2.2.1 r2.2.2.2.2.2.2.1 r2.2.2.2.2.2.2.2 c7_script_h g_script_a_letStarts g_script_a_letEnds g_script_a_letOfLetter)
def oklp_Par_parse_2 (script_tokens_f_kinds : Nat → Int32) (script_tokens_f_values : Nat → Int32) (script_tokens_f_places : Nat → Int32) : Nat → Int32 → Int32 → Int32 → Int32 → Int32 → (Nat → Int32) → (Nat → Int32) → (Nat → Nat → Int32) → Int32 → (Nat → Int32) → (Nat → Int32) → (Nat → Int32) → Prop
  | 0, _, _, _, _, _, _, _, _, _, _, _, _ => False
  | n + 1, i1, c3_h, c4_h, c3_script_h, c2_script_conditions_h, g_script_conditions_a_steps, g_script_conditions_a_values, gQ_script_qa, c7_script_h, g_script_a_letStarts, g_script_a_letEnds, g_script_a_letOfLetter =>
    if 22 < i1 then (if 2001 ≤ c3_h then (True)
      else ((vp_in c3_h 2001) ∧ (True)))
    else (let r1 := (s_Par_kind script_tokens_f_kinds c3_h);
    (up c3_h 2001) ∧ (if r1 = 5 then (let r5 := (s_Par_let script_tokens_f_kinds script_tokens_f_values g_script_conditions_a_steps g_script_conditions_a_values c2_script_conditions_h g_script_a_letStarts g_script_a_letEnds g_script_a_letOfLetter c7_script_h c3_h c4_h);
      (ok_Par_let script_tokens_f_kinds script_tokens_f_values g_script_conditions_a_steps g_script_conditions_a_values c2_script_conditions_h g_script_a_letStarts g_script_a_letEnds g_script_a_letOfLetter c7_script_h c3_h c4_h) ∧ (if r5.1 = 0 then (if 2001 ≤ r5.2.1 then (True)
        else ((vp_in r5.2.1 2001) ∧ (True)))
      else (let r6 := (s_Par_take script_tokens_f_kinds r5.2.1 26);
      (up r5.2.1 2001) ∧ (if r6.1 = 0 then (if 2001 ≤ r6.2 then (True)
        else (True))
      else (let r7 := (s_Par_kind script_tokens_f_kinds r6.2);
      if r7 = 0 then (True)
      else ((oklp_Par_parse_2 script_tokens_f_kinds script_tokens_f_values script_tokens_f_places n (i1 + 1) r6.2 r5.2.2.1 c3_script_h r5.2.2.2.2.1 r5.2.2.2.2.2.1 r5.2.2.2.2.2.2.1 gQ_script_qa r5.2.2.2.1 r5.2.2.2.2.2.2.2.1 r5.2.2.2.2.2.2.2.2.1 r5.2.2.2.2.2.2.2.2.2)))))))
    else (let r2 := (s_Par_asks script_tokens_f_kinds script_tokens_f_values g_script_conditions_a_steps g_script_conditions_a_values c2_script_conditions_h gQ_script_qa c3_script_h g_script_a_letOfLetter c3_h c4_h);
    (ok_Par_asks script_tokens_f_kinds script_tokens_f_values g_script_conditions_a_steps g_script_conditions_a_values c2_script_conditions_h gQ_script_qa c3_script_h g_script_a_letOfLetter c3_h c4_h) ∧ (if r2.1 = 0 then (if 2001 ≤ r2.2.1 then (True)
      else ((vp_in r2.2.1 2001) ∧ (True)))
    else (let r3 := (s_Par_take script_tokens_f_kinds r2.2.1 26);
    (up r2.2.1 2001) ∧ (if r3.1 = 0 then (if 2001 ≤ r3.2 then (True)
      else (True))
    else (let r4 := (s_Par_kind script_tokens_f_kinds r3.2);
    if r4 = 0 then (True)
    else ((oklp_Par_parse_2 script_tokens_f_kinds script_tokens_f_values script_tokens_f_places n (i1 + 1) r3.2 r2.2.2.1 r2.2.2.2.1 r2.2.2.2.2.1 r2.2.2.2.2.2.1 r2.2.2.2.2.2.2.1 r2.2.2.2.2.2.2.2 c7_script_h g_script_a_letStarts g_script_a_letEnds g_script_a_letOfLetter)))))))))
def ok_Par_parse (script_tokens_f_kinds : Nat → Int32) (script_tokens_f_values : Nat → Int32) (script_tokens_f_places : Nat → Int32) (script_conditions_f_steps : Nat → Int32) (script_conditions_f_values : Nat → Int32) (script_conditions__size : Int32) (script_Q : Nat → Nat → Int32) (script__asked : Int32) (script_f_letStarts : Nat → Int32) (script_f_letEnds : Nat → Int32) (script_f_letOfLetter : Nat → Int32) (script__lets : Int32) (v_at : Int32) (v_joints : Int32) : Prop :=
  (oklp_Par_parse_2 script_tokens_f_kinds script_tokens_f_values script_tokens_f_places 24 (0 : Int32) v_at v_joints script__asked script_conditions__size script_conditions_f_steps script_conditions_f_values script_Q script__lets script_f_letStarts script_f_letEnds script_f_letOfLetter)
def rmN (d c s : Nat) : Room := { frames := d, cells := c, slots := s, locals := 64 * d }
abbrev NW : Type := (Nat → Nat) → (Nat → Nat → Nat) → va_W
def ly_QN (G : GG) (A : Nat → Prop) (w1 : NW) : Array Value → State → Outcome → State → Prop := fun _ st oc t =>
  oc = .returned none ∧ (∃ f g, va_P G.1 classes (w1 f g) t.heap ∧ va_D A (w1 f g)) ∧ va_F A st t
def ly_BN (G : GG) (w0 : va_W) (sz : Nat) : State → Prop := fun U => ly_B G w0 sz U ∧ va_AO R_Qu U
def DetN (l : Launch) (G : GG) (y : MethodName) (ws : List Cond) (rm : Room) (mc ms : Nat) (av : List Value) (w0 : va_W) (w1 : NW) : Prop :=
  ∀ sz : Nat, Met l y ws rm (va_Pc av (ly_BN G w0 sz)) (ly_QN G (va_A w0 sz) w1) mc ms (va_A w0 sz)
def s_PQ_init (x : Int32) (z : Int32) : Int32 × Int32 × Int32 × Int32 :=
  let r1 := (s_PQ_nearest x 1 999);
  let r2 := (s_PQ_nearest z (r1 + 1) 1000);
  (r1, r2, r1, r2)
def s_Mo_init (x : Int32) (z : Int32) : Int32 × Int32 :=
  if 1 ≤ x then (if x ≤ 999 then (if (x + 1) ≤ z then (if z ≤ 1000 then (x, z)
        else (x, 1000))
      else (x, x + 1))
    else if (999 + 1) ≤ z then (if z ≤ 1000 then (999, z)
      else (999, 1000))
    else (999, 999 + 1))
  else if (1 + 1) ≤ z then (if z ≤ 1000 then (1, z)
    else (1, 1000))
  else (1, 1 + 1)
def s_PQ_read (script_h : Nat) (spare_h : Nat) (text_f_signs : Nat → Int32) (text__size : Int32) (spare_tokens_f_kinds : Nat → Int32) (spare_tokens_f_values : Nat → Int32) (spare_tokens_f_places : Nat → Int32) (spare_conditions_f_steps : Nat → Int32) (spare_conditions_f_values : Nat → Int32) (spare_Q : Nat → Nat → Int32) (spare_f_letStarts : Nat → Int32) (spare_f_letEnds : Nat → Int32) (spare_f_letOfLetter : Nat → Int32) (v_hasScript : Int32) : Int32 × Nat × Nat × Int32 × Int32 × Int32 × Int32 × Int32 × (Nat → Int32) × (Nat → Int32) × (Nat → Int32) × Int32 × (Nat → Int32) × (Nat → Int32) × (Nat → Int32) × (Nat → Int32) × (Nat → Int32) × (Nat → Nat → Int32) :=
  let r1 := (s_Scr_cut spare_tokens_f_kinds spare_tokens_f_values spare_tokens_f_places spare_f_letOfLetter text_f_signs text__size);
  let r2 := (lp_Par_parse_2 r1.2.2.2.1 r1.2.2.2.2.1 r1.2.2.2.2.2.1 24 (0 : Int32) 0 0 r1.1 r1.2.2.2.2.2.2.1 spare_conditions_f_steps spare_conditions_f_values spare_Q r1.2.1 spare_f_letStarts spare_f_letEnds r1.2.2.2.2.2.2.2);
  if r2.1 = (-1) then (r2.2.2.2.1 + r2.2.2.2.2.1, spare_h, script_h, 1, 0, r2.2.2.2.1, r2.2.2.2.2.1, r1.2.2.1, r1.2.2.2.1, r1.2.2.2.2.1, r1.2.2.2.2.2.1, r2.2.2.2.2.2.1, r2.2.2.2.2.2.2.1, r2.2.2.2.2.2.2.2.1, r2.2.2.2.2.2.2.2.2.1, r2.2.2.2.2.2.2.2.2.2.1, r2.2.2.2.2.2.2.2.2.2.2.1, r2.2.2.2.2.2.2.2.2.2.2.2)
  else ((-1000) - r2.1, script_h, spare_h, v_hasScript, 0, r2.2.2.2.1, r2.2.2.2.2.1, r1.2.2.1, r1.2.2.2.1, r1.2.2.2.2.1, r1.2.2.2.2.2.1, r2.2.2.2.2.2.1, r2.2.2.2.2.2.2.1, r2.2.2.2.2.2.2.2.1, r2.2.2.2.2.2.2.2.2.1, r2.2.2.2.2.2.2.2.2.2.1, r2.2.2.2.2.2.2.2.2.2.2.1, r2.2.2.2.2.2.2.2.2.2.2.2)
def ok_PQ_read (text_f_signs : Nat → Int32) (text__size : Int32) (spare_tokens_f_kinds : Nat → Int32) (spare_tokens_f_values : Nat → Int32) (spare_tokens_f_places : Nat → Int32) (spare_conditions_f_steps : Nat → Int32) (spare_conditions_f_values : Nat → Int32) (spare_Q : Nat → Nat → Int32) (spare_f_letStarts : Nat → Int32) (spare_f_letEnds : Nat → Int32) (spare_f_letOfLetter : Nat → Int32) : Prop :=
  let r1 := (s_Scr_cut spare_tokens_f_kinds spare_tokens_f_values spare_tokens_f_places spare_f_letOfLetter text_f_signs text__size);
  (ok_Scr_cut spare_tokens_f_kinds spare_tokens_f_values spare_tokens_f_places spare_f_letOfLetter text_f_signs text__size) ∧ (let r2 := (lp_Par_parse_2 r1.2.2.2.1 r1.2.2.2.2.1 r1.2.2.2.2.2.1 24 (0 : Int32) 0 0 r1.1 r1.2.2.2.2.2.2.1 spare_conditions_f_steps spare_conditions_f_values spare_Q r1.2.1 spare_f_letStarts spare_f_letEnds r1.2.2.2.2.2.2.2);
  (ok_Par_parse r1.2.2.2.1 r1.2.2.2.2.1 r1.2.2.2.2.2.1 spare_conditions_f_steps spare_conditions_f_values r1.2.2.2.2.2.2.1 spare_Q r1.1 spare_f_letStarts spare_f_letEnds r1.2.2.2.2.2.2.2 r1.2.1 0 0) ∧ (if r2.1 = (-1) then (True)
  else (True)))
def lp_Mo_read_37  : Nat → Int32 → (Nat → Int32) → Int32 → Int32 → Int32 → Int32 → Int32 → Int32 → Int32 → Int32 × (Nat → Int32)
  | 0, i1, g_a_isTold, _, _, _, _, _, _, _ => (i1, g_a_isTold)
  | n + 1, i1, g_a_isTold, w12_h, w16_h, w21_h, w22_h, w23_h, w24_h, w28_h =>
    if 26 ≤ i1 then (i1, g_a_isTold)
    else (lp_Mo_read_37 n (i1 + 1) (upd g_a_isTold i1.toNatClampNeg (vp_nar .boolean 0)) w12_h w16_h w21_h w22_h w23_h w24_h w28_h)
def oklp_Mo_read_37  : Nat → Int32 → (Nat → Int32) → Int32 → Int32 → Int32 → Int32 → Int32 → Int32 → Int32 → Prop
  | 0, _, _, _, _, _, _, _, _, _ => False
  | n + 1, i1, g_a_isTold, w12_h, w16_h, w21_h, w22_h, w23_h, w24_h, w28_h =>
    if 26 ≤ i1 then (True)
    else ((vp_in i1 26) ∧ ((oklp_Mo_read_37 n (i1 + 1) (upd g_a_isTold i1.toNatClampNeg (vp_nar .boolean 0)) w12_h w16_h w21_h w22_h w23_h w24_h w28_h)))
def lp_Mo_read_65 (f_text : Nat → Int32) (v_signs : Int32) : Nat → Int32 → Int32 → Int32 → Int32 → Int32 → Int32 → Int32 → Int32 → Int32 → Int32 → Int32 → Int32 → Int32 → (Nat → Int32) → (Nat → Int32) → (Nat → Int32) → (Nat → Int32) → (Nat → Int32) → (Nat → Int32) → (Nat → Int32) → (Nat → Int32) → (Nat → Int32) → (Nat → Int32) → (Nat → Int32) → (Nat → Int32) → (Nat → Int32) → (Nat → Int32) → (Nat → Int32) → (Nat → Int32) → (Nat → Int32) → Int32 × Int32 × Int32 × Int32 × Int32 × Int32 × Int32 × Int32 × Int32 × Int32 × Int32 × Int32 × Int32 × (Nat → Int32) × (Nat → Int32) × (Nat → Int32) × (Nat → Int32) × (Nat → Int32) × (Nat → Int32) × (Nat → Int32) × (Nat → Int32) × (Nat → Int32) × (Nat → Int32) × (Nat → Int32) × (Nat → Int32) × (Nat → Int32) × (Nat → Int32) × (Nat → Int32) × (Nat → Int32) × (Nat → Int32)
  | 0, u1, w12_h, w16_h, w17_h, w18_h, w19_h, w20_h, w21_h, w22_h, w23_h, w24_h, w28_h, w59_h, g_a_kinds, g_a_values, g_a_isTold, g_a_letOf, g_a_code, g_a_letEnd, g_a_letBegin, g_a_sort, g_a_column, g_a_low, g_a_high, g_a_by, g_a_top, g_a_begins, g_a_ends, g_a_goals, g_a_withs => (u1, w12_h, w16_h, w17_h, w18_h, w19_h, w20_h, w21_h, w22_h, w23_h, w24_h, w28_h, w59_h, g_a_kinds, g_a_values, g_a_isTold, g_a_letOf, g_a_code, g_a_letEnd, g_a_letBegin, g_a_sort, g_a_column, g_a_low, g_a_high, g_a_by, g_a_top, g_a_begins, g_a_ends, g_a_goals, g_a_withs)
  | n + 1, u1, w12_h, w16_h, w17_h, w18_h, w19_h, w20_h, w21_h, w22_h, w23_h, w24_h, w28_h, w59_h, g_a_kinds, g_a_values, g_a_isTold, g_a_letOf, g_a_code, g_a_letEnd, g_a_letBegin, g_a_sort, g_a_column, g_a_low, g_a_high, g_a_by, g_a_top, g_a_begins, g_a_ends, g_a_goals, g_a_withs =>
    if u1 = 0 then (u1, w12_h, w16_h, w17_h, w18_h, w19_h, w20_h, w21_h, w22_h, w23_h, w24_h, w28_h, w59_h, g_a_kinds, g_a_values, g_a_isTold, g_a_letOf, g_a_code, g_a_letEnd, g_a_letBegin, g_a_sort, g_a_column, g_a_low, g_a_high, g_a_by, g_a_top, g_a_begins, g_a_ends, g_a_goals, g_a_withs)
    else if w18_h = 30 then (u1, w12_h, w16_h, w17_h, w18_h, w19_h, w20_h, w21_h, w22_h, w23_h, w24_h + 1, w28_h, w59_h, g_a_kinds, g_a_values, g_a_isTold, g_a_letOf, g_a_code, g_a_letEnd, g_a_letBegin, g_a_sort, g_a_column, g_a_low, g_a_high, g_a_by, g_a_top, g_a_begins, g_a_ends, g_a_goals, g_a_withs)
    else let r1 := (s_Mo_readStatement f_text v_signs g_a_kinds g_a_values w12_h w16_h w17_h w18_h w19_h w20_h w21_h w22_h w23_h g_a_isTold g_a_letOf g_a_code w28_h g_a_letEnd g_a_letBegin g_a_sort g_a_column g_a_low g_a_high g_a_by g_a_top g_a_begins g_a_ends g_a_goals g_a_withs w59_h);
    (lp_Mo_read_65 f_text v_signs n r1.1 r1.2.1 r1.2.2.1 r1.2.2.2.1 r1.2.2.2.2.1 r1.2.2.2.2.2.1 r1.2.2.2.2.2.2.1 r1.2.2.2.2.2.2.2.1 r1.2.2.2.2.2.2.2.2.1 r1.2.2.2.2.2.2.2.2.2.1 (w24_h + 1) r1.2.2.2.2.2.2.2.2.2.2.1 r1.2.2.2.2.2.2.2.2.2.2.2.1 r1.2.2.2.2.2.2.2.2.2.2.2.2.1 r1.2.2.2.2.2.2.2.2.2.2.2.2.2.1 r1.2.2.2.2.2.2.2.2.2.2.2.2.2.2.1 r1.2.2.2.2.2.2.2.2.2.2.2.2.2.2.2.1 r1.2.2.2.2.2.2.2.2.2.2.2.2.2.2.2.2.1 r1.2.2.2.2.2.2.2.2.2.2.2.2.2.2.2.2.2.1 r1.2.2.2.2.2.2.2.2.2.2.2.2.2.2.2.2.2.2.1 r1.2.2.2.2.2.2.2.2.2.2.2.2.2.2.2.2.2.2.2.1 r1.2.2.2.2.2.2.2.2.2.2.2.2.2.2.2.2.2.2.2.2.1 r1.2.2.2.2.2.2.2.2.2.2.2.2.2.2.2.2.2.2.2.2.2.1 r1.2.2.2.2.2.2.2.2.2.2.2.2.2.2.2.2.2.2.2.2.2.2.1 r1.2.2.2.2.2.2.2.2.2.2.2.2.2.2.2.2.2.2.2.2.2.2.2.1 r1.2.2.2.2.2.2.2.2.2.2.2.2.2.2.2.2.2.2.2.2.2.2.2.2.1 r1.2.2.2.2.2.2.2.2.2.2.2.2.2.2.2.2.2.2.2.2.2.2.2.2.2.1 r1.2.2.2.2.2.2.2.2.2.2.2.2.2.2.2.2.2.2.2.2.2.2.2.2.2.2.1 r1.2.2.2.2.2.2.2.2.2.2.2.2.2.2.2.2.2.2.2.2.2.2.2.2.2.2.2.1 r1.2.2.2.2.2.2.2.2.2.2.2.2.2.2.2.2.2.2.2.2.2.2.2.2.2.2.2.2)
def oklp_Mo_read_65 (f_text : Nat → Int32) (v_signs : Int32) : Nat → Int32 → Int32 → Int32 → Int32 → Int32 → Int32 → Int32 → Int32 → Int32 → Int32 → Int32 → Int32 → Int32 → (Nat → Int32) → (Nat → Int32) → (Nat → Int32) → (Nat → Int32) → (Nat → Int32) → (Nat → Int32) → (Nat → Int32) → (Nat → Int32) → (Nat → Int32) → (Nat → Int32) → (Nat → Int32) → (Nat → Int32) → (Nat → Int32) → (Nat → Int32) → (Nat → Int32) → (Nat → Int32) → (Nat → Int32) → Prop
  | 0, _, _, _, _, _, _, _, _, _, _, _, _, _, _, _, _, _, _, _, _, _, _, _, _, _, _, _, _, _, _ => False
  | n + 1, u1, w12_h, w16_h, w17_h, w18_h, w19_h, w20_h, w21_h, w22_h, w23_h, w24_h, w28_h, w59_h, g_a_kinds, g_a_values, g_a_isTold, g_a_letOf, g_a_code, g_a_letEnd, g_a_letBegin, g_a_sort, g_a_column, g_a_low, g_a_high, g_a_by, g_a_top, g_a_begins, g_a_ends, g_a_goals, g_a_withs =>
    if u1 = 0 then (True)
    else (if w18_h = 30 then (True)
    else (let r1 := (s_Mo_readStatement f_text v_signs g_a_kinds g_a_values w12_h w16_h w17_h w18_h w19_h w20_h w21_h w22_h w23_h g_a_isTold g_a_letOf g_a_code w28_h g_a_letEnd g_a_letBegin g_a_sort g_a_column g_a_low g_a_high g_a_by g_a_top g_a_begins g_a_ends g_a_goals g_a_withs w59_h);
    (ok_Mo_readStatement f_text v_signs g_a_kinds g_a_values w12_h w16_h w17_h w18_h w19_h w20_h w21_h w22_h w23_h g_a_isTold g_a_letOf g_a_code w28_h g_a_letEnd g_a_letBegin g_a_sort g_a_column g_a_low g_a_high g_a_by g_a_top g_a_begins g_a_ends g_a_goals g_a_withs w59_h) ∧ ((oklp_Mo_read_65 f_text v_signs n r1.1 r1.2.1 r1.2.2.1 r1.2.2.2.1 r1.2.2.2.2.1 r1.2.2.2.2.2.1 r1.2.2.2.2.2.2.1 r1.2.2.2.2.2.2.2.1 r1.2.2.2.2.2.2.2.2.1 r1.2.2.2.2.2.2.2.2.2.1 (w24_h + 1) r1.2.2.2.2.2.2.2.2.2.2.1 r1.2.2.2.2.2.2.2.2.2.2.2.1 r1.2.2.2.2.2.2.2.2.2.2.2.2.1 r1.2.2.2.2.2.2.2.2.2.2.2.2.2.1 r1.2.2.2.2.2.2.2.2.2.2.2.2.2.2.1 r1.2.2.2.2.2.2.2.2.2.2.2.2.2.2.2.1 r1.2.2.2.2.2.2.2.2.2.2.2.2.2.2.2.2.1 r1.2.2.2.2.2.2.2.2.2.2.2.2.2.2.2.2.2.1 r1.2.2.2.2.2.2.2.2.2.2.2.2.2.2.2.2.2.2.1 r1.2.2.2.2.2.2.2.2.2.2.2.2.2.2.2.2.2.2.2.1 r1.2.2.2.2.2.2.2.2.2.2.2.2.2.2.2.2.2.2.2.2.1 r1.2.2.2.2.2.2.2.2.2.2.2.2.2.2.2.2.2.2.2.2.2.1 r1.2.2.2.2.2.2.2.2.2.2.2.2.2.2.2.2.2.2.2.2.2.2.1 r1.2.2.2.2.2.2.2.2.2.2.2.2.2.2.2.2.2.2.2.2.2.2.2.1 r1.2.2.2.2.2.2.2.2.2.2.2.2.2.2.2.2.2.2.2.2.2.2.2.2.1 r1.2.2.2.2.2.2.2.2.2.2.2.2.2.2.2.2.2.2.2.2.2.2.2.2.2.1 r1.2.2.2.2.2.2.2.2.2.2.2.2.2.2.2.2.2.2.2.2.2.2.2.2.2.2.1 r1.2.2.2.2.2.2.2.2.2.2.2.2.2.2.2.2.2.2.2.2.2.2.2.2.2.2.2.1 r1.2.2.2.2.2.2.2.2.2.2.2.2.2.2.2.2.2.2.2.2.2.2.2.2.2.2.2.2))))
def s_Mo_read (f_text : Nat → Int32) (v_signs : Int32) (f_kinds : Nat → Int32) (f_values : Nat → Int32) (f_scriptKinds : Nat → Int32) (f_scriptValues : Nat → Int32) (v_scriptTokens : Int32) (v_depth : Int32) (f_isTold : Nat → Int32) (f_letOf : Nat → Int32) (f_code : Nat → Int32) (f_letEnd : Nat → Int32) (f_letBegin : Nat → Int32) (f_sort : Nat → Int32) (f_column : Nat → Int32) (f_low : Nat → Int32) (f_high : Nat → Int32) (f_by : Nat → Int32) (f_top : Nat → Int32) (f_begins : Nat → Int32) (f_ends : Nat → Int32) (v_hasScript : Int32) (v_scriptLets : Int32) (v_scriptQuestions : Int32) (f_scriptCode : Nat → Int32) (f_scriptLetBegin : Nat → Int32) (f_scriptLetEnd : Nat → Int32) (f_aSort : Nat → Int32) (f_aColumn : Nat → Int32) (f_aLow : Nat → Int32) (f_aHigh : Nat → Int32) (f_aBy : Nat → Int32) (f_aTop : Nat → Int32) (f_aBegin : Nat → Int32) (f_anEnd : Nat → Int32) (f_goals : Nat → Int32) (f_withs : Nat → Int32) (v_goalCount : Int32) : Int32 × Int32 × Int32 × Int32 × Int32 × Int32 × Int32 × Int32 × Int32 × Int32 × Int32 × Int32 × Int32 × Int32 × Int32 × Int32 × Int32 × Int32 × (Nat → Int32) × (Nat → Int32) × (Nat → Int32) × (Nat → Int32) × (Nat → Int32) × (Nat → Int32) × (Nat → Int32) × (Nat → Int32) × (Nat → Int32) × (Nat → Int32) × (Nat → Int32) × (Nat → Int32) × (Nat → Int32) × (Nat → Int32) × (Nat → Int32) × (Nat → Int32) × (Nat → Int32) × (Nat → Int32) × (Nat → Int32) × (Nat → Int32) × (Nat → Int32) × (Nat → Int32) × (Nat → Int32) × (Nat → Int32) × (Nat → Int32) × (Nat → Int32) × (Nat → Int32) × (Nat → Int32) × (Nat → Int32) × (Nat → Int32) :=
  let r1 := (lp_Mo_read_37 27 (0 : Int32) f_isTold (0 : Int32) (0 : Int32) (0 : Int32) (0 : Int32) (0 : Int32) (0 : Int32) (0 : Int32));
  let r2 := (s_Mo_look f_text v_signs 0);
  let r3 := (s_Mo_readStatement f_text v_signs f_kinds f_values 0 r2.1 r2.2.1 r2.2.2.1 r2.2.2.2 v_depth 0 0 0 r1.2 f_letOf f_code 0 f_letEnd f_letBegin f_sort f_column f_low f_high f_by f_top f_begins f_ends f_goals f_withs v_goalCount);
  let r4 := (lp_Mo_read_65 f_text v_signs 24 r3.1 r3.2.1 r3.2.2.1 r3.2.2.2.1 r3.2.2.2.2.1 r3.2.2.2.2.2.1 r3.2.2.2.2.2.2.1 r3.2.2.2.2.2.2.2.1 r3.2.2.2.2.2.2.2.2.1 r3.2.2.2.2.2.2.2.2.2.1 (0 : Int32) r3.2.2.2.2.2.2.2.2.2.2.1 r3.2.2.2.2.2.2.2.2.2.2.2.1 r3.2.2.2.2.2.2.2.2.2.2.2.2.1 r3.2.2.2.2.2.2.2.2.2.2.2.2.2.1 r3.2.2.2.2.2.2.2.2.2.2.2.2.2.2.1 r3.2.2.2.2.2.2.2.2.2.2.2.2.2.2.2.1 r3.2.2.2.2.2.2.2.2.2.2.2.2.2.2.2.2.1 r3.2.2.2.2.2.2.2.2.2.2.2.2.2.2.2.2.2.1 r3.2.2.2.2.2.2.2.2.2.2.2.2.2.2.2.2.2.2.1 r3.2.2.2.2.2.2.2.2.2.2.2.2.2.2.2.2.2.2.2.1 r3.2.2.2.2.2.2.2.2.2.2.2.2.2.2.2.2.2.2.2.2.1 r3.2.2.2.2.2.2.2.2.2.2.2.2.2.2.2.2.2.2.2.2.2.1 r3.2.2.2.2.2.2.2.2.2.2.2.2.2.2.2.2.2.2.2.2.2.2.1 r3.2.2.2.2.2.2.2.2.2.2.2.2.2.2.2.2.2.2.2.2.2.2.2.1 r3.2.2.2.2.2.2.2.2.2.2.2.2.2.2.2.2.2.2.2.2.2.2.2.2.1 r3.2.2.2.2.2.2.2.2.2.2.2.2.2.2.2.2.2.2.2.2.2.2.2.2.2.1 r3.2.2.2.2.2.2.2.2.2.2.2.2.2.2.2.2.2.2.2.2.2.2.2.2.2.2.1 r3.2.2.2.2.2.2.2.2.2.2.2.2.2.2.2.2.2.2.2.2.2.2.2.2.2.2.2.1 r3.2.2.2.2.2.2.2.2.2.2.2.2.2.2.2.2.2.2.2.2.2.2.2.2.2.2.2.2);
  if r4.1 = 0 then ((-1000) - r4.2.2.2.1, 0, r4.2.1, v_scriptTokens, r4.2.2.1, r4.2.2.2.1, r4.2.2.2.2.1, r4.2.2.2.2.2.1, r4.2.2.2.2.2.2.1, r4.2.2.2.2.2.2.2.1, r4.2.2.2.2.2.2.2.2.1, r4.2.2.2.2.2.2.2.2.2.1, r4.2.2.2.2.2.2.2.2.2.2.1, r4.2.2.2.2.2.2.2.2.2.2.2.1, v_hasScript, v_scriptLets, v_scriptQuestions, r4.2.2.2.2.2.2.2.2.2.2.2.2.1, r4.2.2.2.2.2.2.2.2.2.2.2.2.2.1, r4.2.2.2.2.2.2.2.2.2.2.2.2.2.2.1, f_scriptKinds, f_scriptValues, r4.2.2.2.2.2.2.2.2.2.2.2.2.2.2.2.1, r4.2.2.2.2.2.2.2.2.2.2.2.2.2.2.2.2.1, r4.2.2.2.2.2.2.2.2.2.2.2.2.2.2.2.2.2.1, r4.2.2.2.2.2.2.2.2.2.2.2.2.2.2.2.2.2.2.1, r4.2.2.2.2.2.2.2.2.2.2.2.2.2.2.2.2.2.2.2.1, r4.2.2.2.2.2.2.2.2.2.2.2.2.2.2.2.2.2.2.2.2.1, r4.2.2.2.2.2.2.2.2.2.2.2.2.2.2.2.2.2.2.2.2.2.1, r4.2.2.2.2.2.2.2.2.2.2.2.2.2.2.2.2.2.2.2.2.2.2.1, r4.2.2.2.2.2.2.2.2.2.2.2.2.2.2.2.2.2.2.2.2.2.2.2.1, r4.2.2.2.2.2.2.2.2.2.2.2.2.2.2.2.2.2.2.2.2.2.2.2.2.1, r4.2.2.2.2.2.2.2.2.2.2.2.2.2.2.2.2.2.2.2.2.2.2.2.2.2.1, r4.2.2.2.2.2.2.2.2.2.2.2.2.2.2.2.2.2.2.2.2.2.2.2.2.2.2.1, r4.2.2.2.2.2.2.2.2.2.2.2.2.2.2.2.2.2.2.2.2.2.2.2.2.2.2.2.1, f_scriptCode, f_scriptLetBegin, f_scriptLetEnd, f_aSort, f_aColumn, f_aLow, f_aHigh, f_aBy, f_aTop, f_aBegin, f_anEnd, r4.2.2.2.2.2.2.2.2.2.2.2.2.2.2.2.2.2.2.2.2.2.2.2.2.2.2.2.2.1, r4.2.2.2.2.2.2.2.2.2.2.2.2.2.2.2.2.2.2.2.2.2.2.2.2.2.2.2.2.2)
  else let r5 := (s_Mo_take r4.2.2.2.2.2.2.2.2.2.2.2.2.2.1 r4.2.2.2.2.2.2.2.2.2.2.2.2.2.2.1 r4.2.1 f_scriptKinds f_scriptValues r4.2.2.2.2.2.2.2.2.1 r4.2.2.2.2.2.2.2.2.2.1 r4.2.2.2.2.2.2.2.2.2.2.2.2.2.2.2.2.2.1 r4.2.2.2.2.2.2.2.2.2.2.2.1 r4.2.2.2.2.2.2.2.2.2.2.2.2.2.2.2.2.2.2.1 r4.2.2.2.2.2.2.2.2.2.2.2.2.2.2.2.2.2.2.2.1 r4.2.2.2.2.2.2.2.2.2.2.2.2.2.2.2.2.2.2.2.2.1 r4.2.2.2.2.2.2.2.2.2.2.2.2.2.2.2.2.2.2.2.2.2.1 r4.2.2.2.2.2.2.2.2.2.2.2.2.2.2.2.2.2.2.2.2.2.2.1 r4.2.2.2.2.2.2.2.2.2.2.2.2.2.2.2.2.2.2.2.2.2.2.2.1 r4.2.2.2.2.2.2.2.2.2.2.2.2.2.2.2.2.2.2.2.2.2.2.2.2.1 r4.2.2.2.2.2.2.2.2.2.2.2.2.2.2.2.2.2.2.2.2.2.2.2.2.2.1 r4.2.2.2.2.2.2.2.2.2.2.2.2.2.2.2.2.2.2.2.2.2.2.2.2.2.2.1 r4.2.2.2.2.2.2.2.2.2.2.2.2.2.2.2.2.2.2.2.2.2.2.2.2.2.2.2.1 f_scriptCode f_scriptLetBegin f_scriptLetEnd f_aSort f_aColumn f_aLow f_aHigh f_aBy f_aTop f_aBegin f_anEnd);
  (r4.2.2.2.2.2.2.2.2.2.2.1, 0, r4.2.1, r5.1, r4.2.2.1, r4.2.2.2.1, r4.2.2.2.2.1, r4.2.2.2.2.2.1, r4.2.2.2.2.2.2.1, r4.2.2.2.2.2.2.2.1, r4.2.2.2.2.2.2.2.2.1, r4.2.2.2.2.2.2.2.2.2.1, r4.2.2.2.2.2.2.2.2.2.2.1, r4.2.2.2.2.2.2.2.2.2.2.2.1, r5.2.1, r5.2.2.1, r5.2.2.2.1, r4.2.2.2.2.2.2.2.2.2.2.2.2.1, r4.2.2.2.2.2.2.2.2.2.2.2.2.2.1, r4.2.2.2.2.2.2.2.2.2.2.2.2.2.2.1, r5.2.2.2.2.1, r5.2.2.2.2.2.1, r4.2.2.2.2.2.2.2.2.2.2.2.2.2.2.2.1, r4.2.2.2.2.2.2.2.2.2.2.2.2.2.2.2.2.1, r4.2.2.2.2.2.2.2.2.2.2.2.2.2.2.2.2.2.1, r4.2.2.2.2.2.2.2.2.2.2.2.2.2.2.2.2.2.2.1, r4.2.2.2.2.2.2.2.2.2.2.2.2.2.2.2.2.2.2.2.1, r4.2.2.2.2.2.2.2.2.2.2.2.2.2.2.2.2.2.2.2.2.1, r4.2.2.2.2.2.2.2.2.2.2.2.2.2.2.2.2.2.2.2.2.2.1, r4.2.2.2.2.2.2.2.2.2.2.2.2.2.2.2.2.2.2.2.2.2.2.1, r4.2.2.2.2.2.2.2.2.2.2.2.2.2.2.2.2.2.2.2.2.2.2.2.1, r4.2.2.2.2.2.2.2.2.2.2.2.2.2.2.2.2.2.2.2.2.2.2.2.2.1, r4.2.2.2.2.2.2.2.2.2.2.2.2.2.2.2.2.2.2.2.2.2.2.2.2.2.1, r4.2.2.2.2.2.2.2.2.2.2.2.2.2.2.2.2.2.2.2.2.2.2.2.2.2.2.1, r4.2.2.2.2.2.2.2.2.2.2.2.2.2.2.2.2.2.2.2.2.2.2.2.2.2.2.2.1, r5.2.2.2.2.2.2.1, r5.2.2.2.2.2.2.2.1, r5.2.2.2.2.2.2.2.2.1, r5.2.2.2.2.2.2.2.2.2.1, r5.2.2.2.2.2.2.2.2.2.2.1, r5.2.2.2.2.2.2.2.2.2.2.2.1, r5.2.2.2.2.2.2.2.2.2.2.2.2.1, r5.2.2.2.2.2.2.2.2.2.2.2.2.2.1, r5.2.2.2.2.2.2.2.2.2.2.2.2.2.2.1, r5.2.2.2.2.2.2.2.2.2.2.2.2.2.2.2.1, r5.2.2.2.2.2.2.2.2.2.2.2.2.2.2.2.2, r4.2.2.2.2.2.2.2.2.2.2.2.2.2.2.2.2.2.2.2.2.2.2.2.2.2.2.2.2.1, r4.2.2.2.2.2.2.2.2.2.2.2.2.2.2.2.2.2.2.2.2.2.2.2.2.2.2.2.2.2)
def ok_Mo_read (f_text : Nat → Int32) (v_signs : Int32) (f_kinds : Nat → Int32) (f_values : Nat → Int32) (f_scriptKinds : Nat → Int32) (f_scriptValues : Nat → Int32) (v_depth : Int32) (f_isTold : Nat → Int32) (f_letOf : Nat → Int32) (f_code : Nat → Int32) (f_letEnd : Nat → Int32) (f_letBegin : Nat → Int32) (f_sort : Nat → Int32) (f_column : Nat → Int32) (f_low : Nat → Int32) (f_high : Nat → Int32) (f_by : Nat → Int32) (f_top : Nat → Int32) (f_begins : Nat → Int32) (f_ends : Nat → Int32) (f_scriptCode : Nat → Int32) (f_scriptLetBegin : Nat → Int32) (f_scriptLetEnd : Nat → Int32) (f_aSort : Nat → Int32) (f_aColumn : Nat → Int32) (f_aLow : Nat → Int32) (f_aHigh : Nat → Int32) (f_aBy : Nat → Int32) (f_aTop : Nat → Int32) (f_aBegin : Nat → Int32) (f_anEnd : Nat → Int32) (f_goals : Nat → Int32) (f_withs : Nat → Int32) (v_goalCount : Int32) : Prop :=
  ((oklp_Mo_read_37 27 (0 : Int32) f_isTold (0 : Int32) (0 : Int32) (0 : Int32) (0 : Int32) (0 : Int32) (0 : Int32) (0 : Int32))) ∧ (let r1 := (lp_Mo_read_37 27 (0 : Int32) f_isTold (0 : Int32) (0 : Int32) (0 : Int32) (0 : Int32) (0 : Int32) (0 : Int32) (0 : Int32));
  let r2 := (s_Mo_look f_text v_signs 0);
  (LU v_signs 0) ∧ (let r3 := (s_Mo_readStatement f_text v_signs f_kinds f_values 0 r2.1 r2.2.1 r2.2.2.1 r2.2.2.2 v_depth 0 0 0 r1.2 f_letOf f_code 0 f_letEnd f_letBegin f_sort f_column f_low f_high f_by f_top f_begins f_ends f_goals f_withs v_goalCount);
  (ok_Mo_readStatement f_text v_signs f_kinds f_values 0 r2.1 r2.2.1 r2.2.2.1 r2.2.2.2 v_depth 0 0 0 r1.2 f_letOf f_code 0 f_letEnd f_letBegin f_sort f_column f_low f_high f_by f_top f_begins f_ends f_goals f_withs v_goalCount) ∧ (((oklp_Mo_read_65 f_text v_signs 24 r3.1 r3.2.1 r3.2.2.1 r3.2.2.2.1 r3.2.2.2.2.1 r3.2.2.2.2.2.1 r3.2.2.2.2.2.2.1 r3.2.2.2.2.2.2.2.1 r3.2.2.2.2.2.2.2.2.1 r3.2.2.2.2.2.2.2.2.2.1 (0 : Int32) r3.2.2.2.2.2.2.2.2.2.2.1 r3.2.2.2.2.2.2.2.2.2.2.2.1 r3.2.2.2.2.2.2.2.2.2.2.2.2.1 r3.2.2.2.2.2.2.2.2.2.2.2.2.2.1 r3.2.2.2.2.2.2.2.2.2.2.2.2.2.2.1 r3.2.2.2.2.2.2.2.2.2.2.2.2.2.2.2.1 r3.2.2.2.2.2.2.2.2.2.2.2.2.2.2.2.2.1 r3.2.2.2.2.2.2.2.2.2.2.2.2.2.2.2.2.2.1 r3.2.2.2.2.2.2.2.2.2.2.2.2.2.2.2.2.2.2.1 r3.2.2.2.2.2.2.2.2.2.2.2.2.2.2.2.2.2.2.2.1 r3.2.2.2.2.2.2.2.2.2.2.2.2.2.2.2.2.2.2.2.2.1 r3.2.2.2.2.2.2.2.2.2.2.2.2.2.2.2.2.2.2.2.2.2.1 r3.2.2.2.2.2.2.2.2.2.2.2.2.2.2.2.2.2.2.2.2.2.2.1 r3.2.2.2.2.2.2.2.2.2.2.2.2.2.2.2.2.2.2.2.2.2.2.2.1 r3.2.2.2.2.2.2.2.2.2.2.2.2.2.2.2.2.2.2.2.2.2.2.2.2.1 r3.2.2.2.2.2.2.2.2.2.2.2.2.2.2.2.2.2.2.2.2.2.2.2.2.2.1 r3.2.2.2.2.2.2.2.2.2.2.2.2.2.2.2.2.2.2.2.2.2.2.2.2.2.2.1 r3.2.2.2.2.2.2.2.2.2.2.2.2.2.2.2.2.2.2.2.2.2.2.2.2.2.2.2.1 r3.2.2.2.2.2.2.2.2.2.2.2.2.2.2.2.2.2.2.2.2.2.2.2.2.2.2.2.2)) ∧ (let r4 := (lp_Mo_read_65 f_text v_signs 24 r3.1 r3.2.1 r3.2.2.1 r3.2.2.2.1 r3.2.2.2.2.1 r3.2.2.2.2.2.1 r3.2.2.2.2.2.2.1 r3.2.2.2.2.2.2.2.1 r3.2.2.2.2.2.2.2.2.1 r3.2.2.2.2.2.2.2.2.2.1 (0 : Int32) r3.2.2.2.2.2.2.2.2.2.2.1 r3.2.2.2.2.2.2.2.2.2.2.2.1 r3.2.2.2.2.2.2.2.2.2.2.2.2.1 r3.2.2.2.2.2.2.2.2.2.2.2.2.2.1 r3.2.2.2.2.2.2.2.2.2.2.2.2.2.2.1 r3.2.2.2.2.2.2.2.2.2.2.2.2.2.2.2.1 r3.2.2.2.2.2.2.2.2.2.2.2.2.2.2.2.2.1 r3.2.2.2.2.2.2.2.2.2.2.2.2.2.2.2.2.2.1 r3.2.2.2.2.2.2.2.2.2.2.2.2.2.2.2.2.2.2.1 r3.2.2.2.2.2.2.2.2.2.2.2.2.2.2.2.2.2.2.2.1 r3.2.2.2.2.2.2.2.2.2.2.2.2.2.2.2.2.2.2.2.2.1 r3.2.2.2.2.2.2.2.2.2.2.2.2.2.2.2.2.2.2.2.2.2.1 r3.2.2.2.2.2.2.2.2.2.2.2.2.2.2.2.2.2.2.2.2.2.2.1 r3.2.2.2.2.2.2.2.2.2.2.2.2.2.2.2.2.2.2.2.2.2.2.2.1 r3.2.2.2.2.2.2.2.2.2.2.2.2.2.2.2.2.2.2.2.2.2.2.2.2.1 r3.2.2.2.2.2.2.2.2.2.2.2.2.2.2.2.2.2.2.2.2.2.2.2.2.2.1 r3.2.2.2.2.2.2.2.2.2.2.2.2.2.2.2.2.2.2.2.2.2.2.2.2.2.2.1 r3.2.2.2.2.2.2.2.2.2.2.2.2.2.2.2.2.2.2.2.2.2.2.2.2.2.2.2.1 r3.2.2.2.2.2.2.2.2.2.2.2.2.2.2.2.2.2.2.2.2.2.2.2.2.2.2.2.2);
  if r4.1 = 0 then (True)
  else (let r5 := (s_Mo_take r4.2.2.2.2.2.2.2.2.2.2.2.2.2.1 r4.2.2.2.2.2.2.2.2.2.2.2.2.2.2.1 r4.2.1 f_scriptKinds f_scriptValues r4.2.2.2.2.2.2.2.2.1 r4.2.2.2.2.2.2.2.2.2.1 r4.2.2.2.2.2.2.2.2.2.2.2.2.2.2.2.2.2.1 r4.2.2.2.2.2.2.2.2.2.2.2.1 r4.2.2.2.2.2.2.2.2.2.2.2.2.2.2.2.2.2.2.1 r4.2.2.2.2.2.2.2.2.2.2.2.2.2.2.2.2.2.2.2.1 r4.2.2.2.2.2.2.2.2.2.2.2.2.2.2.2.2.2.2.2.2.1 r4.2.2.2.2.2.2.2.2.2.2.2.2.2.2.2.2.2.2.2.2.2.1 r4.2.2.2.2.2.2.2.2.2.2.2.2.2.2.2.2.2.2.2.2.2.2.1 r4.2.2.2.2.2.2.2.2.2.2.2.2.2.2.2.2.2.2.2.2.2.2.2.1 r4.2.2.2.2.2.2.2.2.2.2.2.2.2.2.2.2.2.2.2.2.2.2.2.2.1 r4.2.2.2.2.2.2.2.2.2.2.2.2.2.2.2.2.2.2.2.2.2.2.2.2.2.1 r4.2.2.2.2.2.2.2.2.2.2.2.2.2.2.2.2.2.2.2.2.2.2.2.2.2.2.1 r4.2.2.2.2.2.2.2.2.2.2.2.2.2.2.2.2.2.2.2.2.2.2.2.2.2.2.2.1 f_scriptCode f_scriptLetBegin f_scriptLetEnd f_aSort f_aColumn f_aLow f_aHigh f_aBy f_aTop f_aBegin f_anEnd);
  (ok_Mo_take r4.2.2.2.2.2.2.2.2.2.2.2.2.2.1 r4.2.2.2.2.2.2.2.2.2.2.2.2.2.2.1 r4.2.1 f_scriptKinds f_scriptValues r4.2.2.2.2.2.2.2.2.1 r4.2.2.2.2.2.2.2.2.2.1 r4.2.2.2.2.2.2.2.2.2.2.2.2.2.2.2.2.2.1 r4.2.2.2.2.2.2.2.2.2.2.2.1 r4.2.2.2.2.2.2.2.2.2.2.2.2.2.2.2.2.2.2.1 r4.2.2.2.2.2.2.2.2.2.2.2.2.2.2.2.2.2.2.2.1 r4.2.2.2.2.2.2.2.2.2.2.2.2.2.2.2.2.2.2.2.2.1 r4.2.2.2.2.2.2.2.2.2.2.2.2.2.2.2.2.2.2.2.2.2.1 r4.2.2.2.2.2.2.2.2.2.2.2.2.2.2.2.2.2.2.2.2.2.2.1 r4.2.2.2.2.2.2.2.2.2.2.2.2.2.2.2.2.2.2.2.2.2.2.2.1 r4.2.2.2.2.2.2.2.2.2.2.2.2.2.2.2.2.2.2.2.2.2.2.2.2.1 r4.2.2.2.2.2.2.2.2.2.2.2.2.2.2.2.2.2.2.2.2.2.2.2.2.2.1 r4.2.2.2.2.2.2.2.2.2.2.2.2.2.2.2.2.2.2.2.2.2.2.2.2.2.2.1 r4.2.2.2.2.2.2.2.2.2.2.2.2.2.2.2.2.2.2.2.2.2.2.2.2.2.2.2.1 f_scriptCode f_scriptLetBegin f_scriptLetEnd f_aSort f_aColumn f_aLow f_aHigh f_aBy f_aTop f_aBegin f_anEnd) ∧ (True))))))
