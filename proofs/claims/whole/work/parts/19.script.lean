theorem d_Scr_asked_0 : decode b_Scr_asked 0 = .ok (.aload_n 0, 1) := by decide +kernel
theorem d_Scr_asked_1 : decode b_Scr_asked 1 = .ok (.getfield 32, 3) := by decide +kernel
theorem d_Scr_asked_4 : decode b_Scr_asked 4 = .ok (.ireturn, 1) := by decide +kernel
theorem d_Scr_lets_0 : decode b_Scr_lets 0 = .ok (.aload_n 0, 1) := by decide +kernel
theorem d_Scr_lets_1 : decode b_Scr_lets 1 = .ok (.getfield 46, 3) := by decide +kernel
theorem d_Scr_lets_4 : decode b_Scr_lets 4 = .ok (.ireturn, 1) := by decide +kernel
theorem d_Scr_letOf_0 : decode b_Scr_letOf 0 = .ok (.iload_n 1, 1) := by decide +kernel
theorem d_Scr_letOf_1 : decode b_Scr_letOf 1 = .ok (.ifCond .lt 21, 3) := by decide +kernel
theorem d_Scr_letOf_4 : decode b_Scr_letOf 4 = .ok (.iload_n 1, 1) := by decide +kernel
theorem d_Scr_letOf_5 : decode b_Scr_letOf 5 = .ok (.aload_n 0, 1) := by decide +kernel
theorem d_Scr_letOf_6 : decode b_Scr_letOf 6 = .ok (.getfield 43, 3) := by decide +kernel
theorem d_Scr_letOf_9 : decode b_Scr_letOf 9 = .ok (.arraylength, 1) := by decide +kernel
theorem d_Scr_letOf_10 : decode b_Scr_letOf 10 = .ok (.if_icmp .ge 12, 3) := by decide +kernel
theorem d_Scr_letOf_13 : decode b_Scr_letOf 13 = .ok (.aload_n 0, 1) := by decide +kernel
theorem d_Scr_letOf_14 : decode b_Scr_letOf 14 = .ok (.getfield 43, 3) := by decide +kernel
theorem d_Scr_letOf_17 : decode b_Scr_letOf 17 = .ok (.iload_n 1, 1) := by decide +kernel
theorem d_Scr_letOf_18 : decode b_Scr_letOf 18 = .ok (.iaload, 1) := by decide +kernel
theorem d_Scr_letOf_19 : decode b_Scr_letOf 19 = .ok (.goto 4, 3) := by decide +kernel
theorem d_Scr_letOf_22 : decode b_Scr_letOf 22 = .ok (.iconst (-1), 1) := by decide +kernel
theorem d_Scr_letOf_23 : decode b_Scr_letOf 23 = .ok (.ireturn, 1) := by decide +kernel
theorem d_Scr_addQuestion_0 : decode b_Scr_addQuestion 0 = .ok (.aload_n 0, 1) := by decide +kernel
theorem d_Scr_addQuestion_1 : decode b_Scr_addQuestion 1 = .ok (.aload_n 0, 1) := by decide +kernel
theorem d_Scr_addQuestion_2 : decode b_Scr_addQuestion 2 = .ok (.getfield 32, 3) := by decide +kernel
theorem d_Scr_addQuestion_5 : decode b_Scr_addQuestion 5 = .ok (.iconst 1, 1) := by decide +kernel
theorem d_Scr_addQuestion_6 : decode b_Scr_addQuestion 6 = .ok (.iadd, 1) := by decide +kernel
theorem d_Scr_addQuestion_7 : decode b_Scr_addQuestion 7 = .ok (.bipush 12, 2) := by decide +kernel
theorem d_Scr_addQuestion_9 : decode b_Scr_addQuestion 9 = .ok (.invokestatic 62, 3) := by decide +kernel
theorem d_Scr_addQuestion_12 : decode b_Scr_addQuestion 12 = .ok (.putfield 32, 3) := by decide +kernel
theorem d_Scr_addQuestion_15 : decode b_Scr_addQuestion 15 = .ok (.return_, 1) := by decide +kernel
theorem k_125 : (.fieldLink R_Scr 32 "PrivateQueries$Script" "asked" "I" : Cond) ∈ wG := wGm 310 (by decide +kernel) (by decide +kernel)
theorem k_126 : (.fieldLink R_Scr 46 "PrivateQueries$Script" "lets" "I" : Cond) ∈ wG := wGm 314 (by decide +kernel) (by decide +kernel)
theorem k_127 : (.fieldLink R_Scr 43 "PrivateQueries$Script" "letOfLetter" "[I" : Cond) ∈ wG := wGm 313 (by decide +kernel) (by decide +kernel)
theorem k_128 : (.methodLink R_Scr 62 Lib.Math.min.name : Cond) ∈ wG := wGm 709 (by decide +kernel) (by decide +kernel)
set_option maxHeartbeats 4000000 in
set_option maxRecDepth 100000 in
theorem c_Scr_asked (l : Launch) (G : GG) (h : Nat) (tokens_h : Nat) (conditions_h : Nat) (a_questions : Nat) (a_letStarts : Nat) (a_letEnds : Nat) (a_letOfLetter : Nat) (v_asked : Int32) (v_lets : Int32) : Det l G y_Scr_asked w_Scr_asked (rmD 0) 0 0 [.ref h] [(h, .inr (10, [.ref tokens_h, .ref conditions_h, .ref a_questions, .int v_asked, .ref a_letStarts, .ref a_letEnds, .ref a_letOfLetter, .int v_lets]))] (some (.int v_asked)) [(h, .inr (10, [.ref tokens_h, .ref conditions_h, .ref a_questions, .int v_asked, .ref a_letStarts, .ref a_letEnds, .ref a_letOfLetter, .int v_lets]))] := by
  refine Det.of (cc := b_Scr_asked) (maxL := 1) (ret := (some .int)) (by decide) rfl (Nat.le_of_ble_eq_true rfl) ?_
  intro p e s m args below meth c A ls hx hb hr hml hown hts hlocks hin hA hK hZ hP hD hS hl
  have hts : ∀ w ∈ wG, w.before args s = true := fun w h => hts w (List.mem_cons_of_mem _ h)
  have hown : s.vm.findClass R_Scr = some m.cls := hown
  have hl : lv_has ls 1 [(0, .ref h)] := hl
  refine lv_aload_n hx hb d_Scr_asked_0 rfl (lv_at hl 0 rfl) ?_
  refine va_get (D := G.1) (ci := 10) (C := R_Scr) (T := F_Scr) (N := 8) (v := .int v_asked) hx hb hts i_Scr hown hK hP 0 rfl rfl 3 (by decide) (hts (.fieldLink R_Scr 32 "PrivateQueries$Script" "asked" "I") k_125) (fun _ h9 => h9) rfl d_Scr_asked_1 ?_
  exact ly_iret hx hb hr hlocks hP hD hS d_Scr_asked_4 rfl rfl

set_option maxHeartbeats 4000000 in
set_option maxRecDepth 100000 in
theorem c_Scr_lets (l : Launch) (G : GG) (h : Nat) (tokens_h : Nat) (conditions_h : Nat) (a_questions : Nat) (a_letStarts : Nat) (a_letEnds : Nat) (a_letOfLetter : Nat) (v_asked : Int32) (v_lets : Int32) : Det l G y_Scr_lets w_Scr_lets (rmD 0) 0 0 [.ref h] [(h, .inr (10, [.ref tokens_h, .ref conditions_h, .ref a_questions, .int v_asked, .ref a_letStarts, .ref a_letEnds, .ref a_letOfLetter, .int v_lets]))] (some (.int v_lets)) [(h, .inr (10, [.ref tokens_h, .ref conditions_h, .ref a_questions, .int v_asked, .ref a_letStarts, .ref a_letEnds, .ref a_letOfLetter, .int v_lets]))] := by
  refine Det.of (cc := b_Scr_lets) (maxL := 1) (ret := (some .int)) (by decide) rfl (Nat.le_of_ble_eq_true rfl) ?_
  intro p e s m args below meth c A ls hx hb hr hml hown hts hlocks hin hA hK hZ hP hD hS hl
  have hts : ∀ w ∈ wG, w.before args s = true := fun w h => hts w (List.mem_cons_of_mem _ h)
  have hown : s.vm.findClass R_Scr = some m.cls := hown
  have hl : lv_has ls 1 [(0, .ref h)] := hl
  refine lv_aload_n hx hb d_Scr_lets_0 rfl (lv_at hl 0 rfl) ?_
  refine va_get (D := G.1) (ci := 10) (C := R_Scr) (T := F_Scr) (N := 8) (v := .int v_lets) hx hb hts i_Scr hown hK hP 0 rfl rfl 7 (by decide) (hts (.fieldLink R_Scr 46 "PrivateQueries$Script" "lets" "I") k_126) (fun _ h9 => h9) rfl d_Scr_lets_1 ?_
  exact ly_iret hx hb hr hlocks hP hD hS d_Scr_lets_4 rfl rfl

set_option maxHeartbeats 4000000 in
set_option maxRecDepth 100000 in
theorem c_Scr_letOf (l : Launch) (G : GG) (h : Nat) (tokens_h : Nat) (conditions_h : Nat) (a_questions : Nat) (a_letStarts : Nat) (a_letEnds : Nat) (a_letOfLetter : Nat) (v_asked : Int32) (f_letOfLetter : Nat → Int32) (v_lets : Int32) (x : Int32) : Det l G y_Scr_letOf w_Scr_letOf (rmD 0) 0 0 [.ref h, .int x] [(h, .inr (10, [.ref tokens_h, .ref conditions_h, .ref a_questions, .int v_asked, .ref a_letStarts, .ref a_letEnds, .ref a_letOfLetter, .int v_lets])), (a_letOfLetter, .inl (gI G, 26, .inl f_letOfLetter))] (some (.int (s_Scr_letOf f_letOfLetter x))) [(h, .inr (10, [.ref tokens_h, .ref conditions_h, .ref a_questions, .int v_asked, .ref a_letStarts, .ref a_letEnds, .ref a_letOfLetter, .int v_lets])), (a_letOfLetter, .inl (gI G, 26, .inl f_letOfLetter))] := by
  refine Det.of (cc := b_Scr_letOf) (maxL := 2) (ret := (some .int)) (by decide) rfl (Nat.le_of_ble_eq_true rfl) ?_
  intro p e s m args below meth c A ls hx hb hr hml hown hts hlocks hin hA hK hZ hP hD hS hl
  have hts : ∀ w ∈ wG, w.before args s = true := fun w h => hts w (List.mem_cons_of_mem _ h)
  have hown : s.vm.findClass R_Scr = some m.cls := hown
  have hl : lv_has ls 2 [(0, .ref h), (1, .int x)] := hl
  refine lv_iload_n hx hb d_Scr_letOf_0 rfl (lv_at hl 1 rfl) ?_
  refine lv_if_lt (tgt := 22) hx hb d_Scr_letOf_1 (by decide) (fun c1 => ?_) (fun c1 => ?_)
  · skip
    refine lv_iconst (v := -1) hx hb d_Scr_letOf_22 (by decide) ?_
    exact ly_iret hx hb hr hlocks hP hD hS d_Scr_letOf_23 (by rw [s_Scr_letOf, if_pos c1]) rfl
  refine lv_iload_n hx hb d_Scr_letOf_4 rfl (lv_at hl 1 rfl) ?_
  refine lv_aload_n hx hb d_Scr_letOf_5 rfl (lv_at hl 0 rfl) ?_
  refine va_get (D := G.1) (ci := 10) (C := R_Scr) (T := F_Scr) (N := 8) (v := .ref a_letOfLetter) hx hb hts i_Scr hown hK hP 0 rfl rfl 6 (by decide) (hts (.fieldLink R_Scr 43 "PrivateQueries$Script" "letOfLetter" "[I") k_127) (fun _ h9 => h9) rfl d_Scr_letOf_6 ?_
  refine va_alen (v := 26) hx hb hK hP 1 0 rfl rfl (show Int32.ofNat 26 = 26 by decide) d_Scr_letOf_9 ?_
  refine lv_icmp_ge (tgt := 22) hx hb d_Scr_letOf_10 (by decide) (fun c2 => ?_) (fun c2 => ?_)
  · skip
    refine lv_iconst (v := -1) hx hb d_Scr_letOf_22 (by decide) ?_
    exact ly_iret hx hb hr hlocks hP hD hS d_Scr_letOf_23 (by rw [s_Scr_letOf, if_neg c1, if_pos c2]) rfl
  refine lv_aload_n hx hb d_Scr_letOf_13 rfl (lv_at hl 0 rfl) ?_
  refine va_get (D := G.1) (ci := 10) (C := R_Scr) (T := F_Scr) (N := 8) (v := .ref a_letOfLetter) hx hb hts i_Scr hown hK hP 0 rfl rfl 6 (by decide) (hts (.fieldLink R_Scr 43 "PrivateQueries$Script" "letOfLetter" "[I") k_127) (fun _ h9 => h9) rfl d_Scr_letOf_14 ?_
  refine lv_iload_n hx hb d_Scr_letOf_17 rfl (lv_at hl 1 rfl) ?_
  refine va_iald hx hb hK hP 1 0 rfl rfl (ly_mk (ly_lo c1) (ly_hi (by decide) c2)) d_Scr_letOf_18 ?_
  refine lv_goto (tgt := 23) hx hb d_Scr_letOf_19 (by decide) ?_
  exact ly_iret hx hb hr hlocks hP hD hS d_Scr_letOf_23 (by rw [s_Scr_letOf, if_neg c1, if_neg c2]) rfl

set_option maxHeartbeats 4000000 in
set_option maxRecDepth 100000 in
theorem c_Scr_addQuestion (l : Launch) (G : GG) (h : Nat) (tokens_h : Nat) (conditions_h : Nat) (a_questions : Nat) (a_letStarts : Nat) (a_letEnds : Nat) (a_letOfLetter : Nat) (v_asked : Int32) (v_lets : Int32) : Det l G y_Scr_addQuestion w_Scr_addQuestion (rmD 1) 0 0 [.ref h] [(h, .inr (10, [.ref tokens_h, .ref conditions_h, .ref a_questions, .int v_asked, .ref a_letStarts, .ref a_letEnds, .ref a_letOfLetter, .int v_lets]))] none [(h, .inr (10, [.ref tokens_h, .ref conditions_h, .ref a_questions, .int (if 12 < v_asked + 1 then 12 else v_asked + 1), .ref a_letStarts, .ref a_letEnds, .ref a_letOfLetter, .int v_lets]))] := by
  refine Det.of (cc := b_Scr_addQuestion) (maxL := 1) (ret := none) (by decide) rfl (Nat.le_of_ble_eq_true rfl) ?_
  intro p e s m args below meth c A ls hx hb hr hml hown hts hlocks hin hA hK hZ hP hD hS hl
  have hts : ∀ w ∈ wG, w.before args s = true := fun w h => hts w (List.mem_cons_of_mem _ h)
  have hown : s.vm.findClass R_Scr = some m.cls := hown
  have hl : lv_has ls 1 [(0, .ref h)] := hl
  refine lv_aload_n hx hb d_Scr_addQuestion_0 rfl (lv_at hl 0 rfl) ?_
  refine lv_aload_n hx hb d_Scr_addQuestion_1 rfl (lv_at hl 0 rfl) ?_
  refine va_get (D := G.1) (ci := 10) (C := R_Scr) (T := F_Scr) (N := 8) (v := .int v_asked) hx hb hts i_Scr hown hK hP 0 rfl rfl 3 (by decide) (hts (.fieldLink R_Scr 32 "PrivateQueries$Script" "asked" "I") k_125) (fun _ h9 => h9) rfl d_Scr_addQuestion_2 ?_
  refine lv_iconst (v := 1) hx hb d_Scr_addQuestion_5 (by decide) ?_
  refine lv_iadd hx hb d_Scr_addQuestion_6 ?_
  refine lv_bipush (v := 12) hx hb d_Scr_addQuestion_7 (by decide) ?_
  refine va_mmin hx hb (hml.trans hl.1.symm) hown (hts (.methodLink R_Scr 62 Lib.Math.min.name) k_128) (hts (.static Lib.Math.min.name) k_60) (hts (.initialized "java/lang/Math") k_52) (hts (.code Lib.Math.min.name Lib.Math.min.code 2 (some .int)) k_61) (Nat.le_of_ble_eq_true rfl) (Nat.le_of_ble_eq_true rfl) (Nat.zero_le _) (Nat.zero_le _) d_Scr_addQuestion_9 ?_
  refine va_put (D := G.1) (ci := 10) (v := .int (if 12 < v_asked + 1 then 12 else v_asked + 1)) (ty := .int) (C := R_Scr) (T := F_Scr) (N := 8) hx hb hts i_Scr t_Scr t_Scr_ok n_Scr hown hK hP hD hS 0 rfl rfl 3 (by decide) (hts (.fieldLink R_Scr 32 "PrivateQueries$Script" "asked" "I") k_125) (fun _ h9 => h9) rfl (by decide +kernel) rfl rfl (Nat.le_of_ble_eq_true rfl) d_Scr_addQuestion_12 (fun H locs hP hD hS => ?_)
  have hP : va_P G.1 classes [(h, .inr (10, [.ref tokens_h, .ref conditions_h, .ref a_questions, .int (if 12 < v_asked + 1 then 12 else v_asked + 1), .ref a_letStarts, .ref a_letEnds, .ref a_letOfLetter, .int v_lets]))] H := hP
  have hD : va_D A [(h, .inr (10, [.ref tokens_h, .ref conditions_h, .ref a_questions, .int (if 12 < v_asked + 1 then 12 else v_asked + 1), .ref a_letStarts, .ref a_letEnds, .ref a_letOfLetter, .int v_lets]))] := hD
  exact ly_vret hx hb hr hlocks hP hD hS d_Scr_addQuestion_15 rfl rfl
