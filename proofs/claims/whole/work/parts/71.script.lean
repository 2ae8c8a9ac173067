theorem d_Scr_cut_0 : decode b_Scr_cut 0 = .ok (.aload_n 0, 1) := by decide +kernel
theorem d_Scr_cut_1 : decode b_Scr_cut 1 = .ok (.getfield 14, 3) := by decide +kernel
theorem d_Scr_cut_4 : decode b_Scr_cut 4 = .ok (.aload_n 1, 1) := by decide +kernel
theorem d_Scr_cut_5 : decode b_Scr_cut 5 = .ok (.invokevirtual 49, 3) := by decide +kernel
theorem d_Scr_cut_8 : decode b_Scr_cut 8 = .ok (.aload_n 0, 1) := by decide +kernel
theorem d_Scr_cut_9 : decode b_Scr_cut 9 = .ok (.getfield 21, 3) := by decide +kernel
theorem d_Scr_cut_12 : decode b_Scr_cut 12 = .ok (.invokevirtual 53, 3) := by decide +kernel
theorem d_Scr_cut_15 : decode b_Scr_cut 15 = .ok (.aload_n 0, 1) := by decide +kernel
theorem d_Scr_cut_16 : decode b_Scr_cut 16 = .ok (.iconst 0, 1) := by decide +kernel
theorem d_Scr_cut_17 : decode b_Scr_cut 17 = .ok (.putfield 32, 3) := by decide +kernel
theorem d_Scr_cut_20 : decode b_Scr_cut 20 = .ok (.aload_n 0, 1) := by decide +kernel
theorem d_Scr_cut_21 : decode b_Scr_cut 21 = .ok (.getfield 43, 3) := by decide +kernel
theorem d_Scr_cut_24 : decode b_Scr_cut 24 = .ok (.iconst (-1), 1) := by decide +kernel
theorem d_Scr_cut_25 : decode b_Scr_cut 25 = .ok (.invokestatic 56, 3) := by decide +kernel
theorem d_Scr_cut_28 : decode b_Scr_cut 28 = .ok (.aload_n 0, 1) := by decide +kernel
theorem d_Scr_cut_29 : decode b_Scr_cut 29 = .ok (.iconst 0, 1) := by decide +kernel
theorem d_Scr_cut_30 : decode b_Scr_cut 30 = .ok (.putfield 46, 3) := by decide +kernel
theorem d_Scr_cut_33 : decode b_Scr_cut 33 = .ok (.return_, 1) := by decide +kernel
theorem d_Scr_writeInto_0 : decode b_Scr_writeInto 0 = .ok (.aload_n 0, 1) := by decide +kernel
theorem d_Scr_writeInto_1 : decode b_Scr_writeInto 1 = .ok (.getfield 14, 3) := by decide +kernel
theorem d_Scr_writeInto_4 : decode b_Scr_writeInto 4 = .ok (.aload_n 1, 1) := by decide +kernel
theorem d_Scr_writeInto_5 : decode b_Scr_writeInto 5 = .ok (.invokevirtual 124, 3) := by decide +kernel
theorem d_Scr_writeInto_8 : decode b_Scr_writeInto 8 = .ok (.return_, 1) := by decide +kernel
theorem k_706 : (.fieldLink R_Scr 14 "PrivateQueries$Script" "tokens" "LPrivateQueries$Tokens;" : Cond) ∈ wG := wGm 306 (by decide +kernel) (by decide +kernel)
theorem k_707 : (.methodLink R_Scr 49 y_Tok_cut : Cond) ∈ wG := wGm 480 (by decide +kernel) (by decide +kernel)
theorem k_708 : (.instanceMethod y_Tok_cut : Cond) ∈ wG := wGm 481 (by decide +kernel) (by decide +kernel)
theorem k_709 : (.selects R_Tok y_Tok_cut y_Tok_cut : Cond) ∈ wG := wGm 482 (by decide +kernel) (by decide +kernel)
theorem k_710 : (.code y_Tok_cut b_Tok_cut 4 none : Cond) ∈ wG := wGm 483 (by decide +kernel) (by decide +kernel)
theorem k_711 : (.methodLink R_Scr 53 y_Cond_clear : Cond) ∈ wG := wGm 604 (by decide +kernel) (by decide +kernel)
theorem k_712 : (.instanceMethod y_Cond_clear : Cond) ∈ wG := wGm 605 (by decide +kernel) (by decide +kernel)
theorem k_713 : (.selects R_Cond y_Cond_clear y_Cond_clear : Cond) ∈ wG := wGm 606 (by decide +kernel) (by decide +kernel)
theorem k_714 : (.code y_Cond_clear b_Cond_clear 1 none : Cond) ∈ wG := wGm 607 (by decide +kernel) (by decide +kernel)
theorem k_715 : (.methodLink R_Scr 124 y_Tok_writeInto : Cond) ∈ wG := wGm 875 (by decide +kernel) (by decide +kernel)
theorem k_716 : (.instanceMethod y_Tok_writeInto : Cond) ∈ wG := wGm 876 (by decide +kernel) (by decide +kernel)
theorem k_717 : (.selects R_Tok y_Tok_writeInto y_Tok_writeInto : Cond) ∈ wG := wGm 877 (by decide +kernel) (by decide +kernel)
theorem k_718 : (.code y_Tok_writeInto b_Tok_writeInto 3 none : Cond) ∈ wG := wGm 878 (by decide +kernel) (by decide +kernel)
theorem g_Scr_49 : GoodIn wG (wsV R_Scr 49 R_Tok y_Tok_cut w_Tok_cut) := wGa (fun w hw => by
  rcases List.mem_cons.mp hw with e | hw
  · exact e ▸ k_707
  rcases List.mem_cons.mp hw with e | hw
  · exact e ▸ k_708
  rcases List.mem_cons.mp hw with e | hw
  · exact e ▸ k_709
  rcases List.mem_cons.mp hw with e | hw
  · exact e ▸ k_70
  · exact absurd hw List.not_mem_nil) (wGc k_710)
theorem g_Scr_53 : GoodIn wG (wsV R_Scr 53 R_Cond y_Cond_clear w_Cond_clear) := wGa (fun w hw => by
  rcases List.mem_cons.mp hw with e | hw
  · exact e ▸ k_711
  rcases List.mem_cons.mp hw with e | hw
  · exact e ▸ k_712
  rcases List.mem_cons.mp hw with e | hw
  · exact e ▸ k_713
  rcases List.mem_cons.mp hw with e | hw
  · exact e ▸ k_84
  · exact absurd hw List.not_mem_nil) (wGc k_714)
theorem g_Scr_124 : GoodIn wG (wsV R_Scr 124 R_Tok y_Tok_writeInto w_Tok_writeInto) := wGa (fun w hw => by
  rcases List.mem_cons.mp hw with e | hw
  · exact e ▸ k_715
  rcases List.mem_cons.mp hw with e | hw
  · exact e ▸ k_716
  rcases List.mem_cons.mp hw with e | hw
  · exact e ▸ k_717
  rcases List.mem_cons.mp hw with e | hw
  · exact e ▸ k_70
  · exact absurd hw List.not_mem_nil) (wGc k_718)
set_option maxHeartbeats 4000000 in
set_option maxRecDepth 100000 in
theorem c_Scr_cut (l : Launch) (G : GG) (h : Nat) (tokens_h : Nat) (tokens_a_kinds : Nat) (tokens_a_values : Nat) (tokens_a_places : Nat) (conditions_h : Nat) (conditions_a_steps : Nat) (conditions_a_values : Nat) (conditions_a_stack : Nat) (conditions_a_holding : Nat) (a_questions : Nat) (a_letStarts : Nat) (a_letEnds : Nat) (a_letOfLetter : Nat) (tx_h : Nat) (tx_a_signs : Nat) (tokens_f_kinds : Nat → Int32) (tokens_f_values : Nat → Int32) (tokens_f_places : Nat → Int32) (tokens__size : Int32) (conditions__size : Int32) (conditions__height : Int32) (v_asked : Int32) (f_letOfLetter : Nat → Int32) (v_lets : Int32) (tx_f_signs : Nat → Int32) (tx__size : Int32) (hok : ok_Scr_cut tokens_f_kinds tokens_f_values tokens_f_places f_letOfLetter tx_f_signs tx__size) : Det l G y_Scr_cut w_Scr_cut (rmD 8) 0 0 [.ref h, .ref tx_h] [(h, .inr (10, [.ref tokens_h, .ref conditions_h, .ref a_questions, .int v_asked, .ref a_letStarts, .ref a_letEnds, .ref a_letOfLetter, .int v_lets])), (tokens_h, .inr (7, [.ref tokens_a_kinds, .ref tokens_a_values, .ref tokens_a_places, .int tokens__size])), (tokens_a_kinds, .inl (gI G, 2001, .inl tokens_f_kinds)), (tokens_a_values, .inl (gI G, 2001, .inl tokens_f_values)), (tokens_a_places, .inl (gI G, 2001, .inl tokens_f_places)), (conditions_h, .inr (8, [.ref conditions_a_steps, .ref conditions_a_values, .int conditions__size, .ref conditions_a_stack, .int conditions__height, .ref conditions_a_holding])), (a_letOfLetter, .inl (gI G, 26, .inl f_letOfLetter)), (tx_h, .inr (4, [.ref tx_a_signs, .int tx__size])), (tx_a_signs, .inl (gC G, 2000, .inl tx_f_signs))] none [(h, .inr (10, [.ref tokens_h, .ref conditions_h, .ref a_questions, .int (s_Scr_cut tokens_f_kinds tokens_f_values tokens_f_places f_letOfLetter tx_f_signs tx__size).1, .ref a_letStarts, .ref a_letEnds, .ref a_letOfLetter, .int (s_Scr_cut tokens_f_kinds tokens_f_values tokens_f_places f_letOfLetter tx_f_signs tx__size).2.1])), (tokens_h, .inr (7, [.ref tokens_a_kinds, .ref tokens_a_values, .ref tokens_a_places, .int (s_Scr_cut tokens_f_kinds tokens_f_values tokens_f_places f_letOfLetter tx_f_signs tx__size).2.2.1])), (tokens_a_kinds, .inl (gI G, 2001, .inl (s_Scr_cut tokens_f_kinds tokens_f_values tokens_f_places f_letOfLetter tx_f_signs tx__size).2.2.2.1)), (tokens_a_values, .inl (gI G, 2001, .inl (s_Scr_cut tokens_f_kinds tokens_f_values tokens_f_places f_letOfLetter tx_f_signs tx__size).2.2.2.2.1)), (tokens_a_places, .inl (gI G, 2001, .inl (s_Scr_cut tokens_f_kinds tokens_f_values tokens_f_places f_letOfLetter tx_f_signs tx__size).2.2.2.2.2.1)), (conditions_h, .inr (8, [.ref conditions_a_steps, .ref conditions_a_values, .int (s_Scr_cut tokens_f_kinds tokens_f_values tokens_f_places f_letOfLetter tx_f_signs tx__size).2.2.2.2.2.2.1, .ref conditions_a_stack, .int conditions__height, .ref conditions_a_holding])), (a_letOfLetter, .inl (gI G, 26, .inl (s_Scr_cut tokens_f_kinds tokens_f_values tokens_f_places f_letOfLetter tx_f_signs tx__size).2.2.2.2.2.2.2)), (tx_h, .inr (4, [.ref tx_a_signs, .int tx__size])), (tx_a_signs, .inl (gC G, 2000, .inl tx_f_signs))] := by
  refine Det.of (cc := b_Scr_cut) (maxL := 2) (ret := none) (by decide) rfl (Nat.le_of_ble_eq_true rfl) ?_
  intro p e s m args below meth c A ls hx hb hr hml hown hts hlocks hin hA hK hZ hP hD hS hl
  have hts : ∀ w ∈ wG, w.before args s = true := fun w h => hts w (List.mem_cons_of_mem _ h)
  have hown : s.vm.findClass R_Scr = some m.cls := hown
  have hl : lv_has ls 2 [(0, .ref h), (1, .ref tx_h)] := hl
  rw [ok_Scr_cut] at hok
  refine lv_aload_n hx hb d_Scr_cut_0 rfl (lv_at hl 0 rfl) ?_
  refine va_get (D := G.1) (ci := 10) (C := R_Scr) (T := F_Scr) (N := 8) (v := .ref tokens_h) hx hb hts i_Scr hown hK hP 0 rfl rfl 0 (by decide) (hts (.fieldLink R_Scr 14 "PrivateQueries$Script" "tokens" "LPrivateQueries$Tokens;") k_706) (fun _ h9 => h9) rfl d_Scr_cut_1 ?_
  refine lv_aload_n hx hb d_Scr_cut_4 rfl (lv_at hl 1 rfl) ?_
  obtain ⟨hv1, hok⟩ := hok
  obtain ⟨r1, hr1⟩ : ∃ r, (lp_Tok_cut_7 tx_f_signs tx__size 2001 (0 : Int32) tokens_f_kinds tokens_f_values tokens_f_places (0 : Int32)) = r := ⟨_, rfl⟩
  try simp only [hr1] at hok
  have hC_r1 := (c_Tok_cut l G tokens_h tokens_a_kinds tokens_a_values tokens_a_places tx_h tx_a_signs tokens_f_kinds tokens_f_values tokens_f_places tokens__size tx_f_signs tx__size hv1)
  rw [hr1] at hC_r1
  have hc_ : ∀ (x0_ x1_ x2_ x3_ x4_ x5_ x6_ x7_ x8_ : Nat × va_E) (t_ : va_W), List.map (fun i => (x0_ :: x1_ :: x2_ :: x3_ :: x4_ :: x5_ :: x6_ :: x7_ :: x8_ :: t_)[i]?) [1, 2, 3, 4, 7, 8] = List.map some [x1_, x2_, x3_, x4_, x7_, x8_] := fun _ _ _ _ _ _ _ _ _ _ => rfl
  have hf_ : ∀ (x0_ x1_ x2_ x3_ x4_ x5_ x6_ x7_ x8_ y1_ y2_ y3_ y4_ y7_ y8_ : Nat × va_E) (t_ : va_W), setAll (x0_ :: x1_ :: x2_ :: x3_ :: x4_ :: x5_ :: x6_ :: x7_ :: x8_ :: t_) [1, 2, 3, 4, 7, 8] [y1_, y2_, y3_, y4_, y7_, y8_] = x0_ :: y1_ :: y2_ :: y3_ :: y4_ :: x5_ :: x6_ :: y7_ :: y8_ :: t_ := fun _ _ _ _ _ _ _ _ _ _ _ _ _ _ _ _ => Eq.trans (setAll_M (bs := [false, true, true, true, true, false, false, true, true]) trivial rfl) rfl
  refine ly_callV (rest := []) (wf := [(h, .inr (10, [.ref tokens_h, .ref conditions_h, .ref a_questions, .int v_asked, .ref a_letStarts, .ref a_letEnds, .ref a_letOfLetter, .int v_lets])), (tokens_h, .inr (7, [.ref tokens_a_kinds, .ref tokens_a_values, .ref tokens_a_places, .int r1.1])), (tokens_a_kinds, .inl (gI G, 2001, .inl r1.2.1)), (tokens_a_values, .inl (gI G, 2001, .inl r1.2.2.1)), (tokens_a_places, .inl (gI G, 2001, .inl r1.2.2.2)), (conditions_h, .inr (8, [.ref conditions_a_steps, .ref conditions_a_values, .int conditions__size, .ref conditions_a_stack, .int conditions__height, .ref conditions_a_holding])), (a_letOfLetter, .inl (gI G, 26, .inl f_letOfLetter)), (tx_h, .inr (4, [.ref tx_a_signs, .int tx__size])), (tx_a_signs, .inl (gC G, 2000, .inl tx_f_signs))]) ⟨hx, hb, hml, hown, hts⟩ hA hK hZ hP hD hS hC_r1 (cwV 1 hts g_Scr_49 rfl rfl rfl (by decide +kernel) ⟨Nat.le_of_ble_eq_true rfl, Nat.le_of_ble_eq_true rfl⟩) (ci := 7) (q0 := 1) rfl rfl rfl [1, 2, 3, 4, 7, 8] (hc_ _ _ _ _ _ _ _ _ _ _) (by decide) rfl (hf_ _ _ _ _ _ _ _ _ _ _ _ _ _ _ _ _) rfl hl.1 rfl (Nat.le_of_ble_eq_true rfl) d_Scr_cut_5 ⟨Nat.le_of_ble_eq_true rfl, Nat.le_of_ble_eq_true rfl⟩ (st1 := []) (c1 := 0) (s1 := 0) rfl rfl rfl (fun H locs hP hD hS => ?_)
  refine lv_aload_n hx hb d_Scr_cut_8 rfl (lv_at hl 0 rfl) ?_
  refine va_get (D := G.1) (ci := 10) (C := R_Scr) (T := F_Scr) (N := 8) (v := .ref conditions_h) hx hb hts i_Scr hown hK hP 0 rfl rfl 1 (by decide) (hts (.fieldLink R_Scr 21 "PrivateQueries$Script" "conditions" "LPrivateQueries$Conditions;") k_568) (fun _ h9 => h9) rfl d_Scr_cut_9 ?_
  refine ly_callV (rest := []) (wf := [(h, .inr (10, [.ref tokens_h, .ref conditions_h, .ref a_questions, .int v_asked, .ref a_letStarts, .ref a_letEnds, .ref a_letOfLetter, .int v_lets])), (tokens_h, .inr (7, [.ref tokens_a_kinds, .ref tokens_a_values, .ref tokens_a_places, .int r1.1])), (tokens_a_kinds, .inl (gI G, 2001, .inl r1.2.1)), (tokens_a_values, .inl (gI G, 2001, .inl r1.2.2.1)), (tokens_a_places, .inl (gI G, 2001, .inl r1.2.2.2)), (conditions_h, .inr (8, [.ref conditions_a_steps, .ref conditions_a_values, .int 0, .ref conditions_a_stack, .int conditions__height, .ref conditions_a_holding])), (a_letOfLetter, .inl (gI G, 26, .inl f_letOfLetter)), (tx_h, .inr (4, [.ref tx_a_signs, .int tx__size])), (tx_a_signs, .inl (gC G, 2000, .inl tx_f_signs))]) ⟨hx, hb, hml, hown, hts⟩ hA hK hZ hP hD hS (c_Cond_clear l G conditions_h conditions_a_steps conditions_a_values conditions_a_stack conditions_a_holding conditions__size conditions__height) (cwV 0 hts g_Scr_53 rfl rfl rfl (by decide +kernel) ⟨Nat.le_of_ble_eq_true rfl, Nat.le_of_ble_eq_true rfl⟩) (ci := 8) (q0 := 5) rfl rfl rfl [5] rfl (by decide) rfl rfl rfl hl.1 rfl (Nat.le_of_ble_eq_true rfl) d_Scr_cut_12 ⟨Nat.le_of_ble_eq_true rfl, Nat.le_of_ble_eq_true rfl⟩ (st1 := []) (c1 := 0) (s1 := 0) rfl rfl rfl (fun H locs hP hD hS => ?_)
  refine lv_aload_n hx hb d_Scr_cut_15 rfl (lv_at hl 0 rfl) ?_
  refine lv_iconst (v := 0) hx hb d_Scr_cut_16 (by decide) ?_
  refine va_put (D := G.1) (ci := 10) (v := .int 0) (ty := .int) (C := R_Scr) (T := F_Scr) (N := 8) hx hb hts i_Scr t_Scr t_Scr_ok n_Scr hown hK hP hD hS 0 rfl rfl 3 (by decide) (hts (.fieldLink R_Scr 32 "PrivateQueries$Script" "asked" "I") k_125) (fun _ h9 => h9) rfl (by decide +kernel) rfl rfl (Nat.le_of_ble_eq_true rfl) d_Scr_cut_17 (fun H locs hP hD hS => ?_)
  have hP : va_P G.1 classes [(h, .inr (10, [.ref tokens_h, .ref conditions_h, .ref a_questions, .int 0, .ref a_letStarts, .ref a_letEnds, .ref a_letOfLetter, .int v_lets])), (tokens_h, .inr (7, [.ref tokens_a_kinds, .ref tokens_a_values, .ref tokens_a_places, .int r1.1])), (tokens_a_kinds, .inl (gI G, 2001, .inl r1.2.1)), (tokens_a_values, .inl (gI G, 2001, .inl r1.2.2.1)), (tokens_a_places, .inl (gI G, 2001, .inl r1.2.2.2)), (conditions_h, .inr (8, [.ref conditions_a_steps, .ref conditions_a_values, .int 0, .ref conditions_a_stack, .int conditions__height, .ref conditions_a_holding])), (a_letOfLetter, .inl (gI G, 26, .inl f_letOfLetter)), (tx_h, .inr (4, [.ref tx_a_signs, .int tx__size])), (tx_a_signs, .inl (gC G, 2000, .inl tx_f_signs))] H := hP
  have hD : va_D A [(h, .inr (10, [.ref tokens_h, .ref conditions_h, .ref a_questions, .int 0, .ref a_letStarts, .ref a_letEnds, .ref a_letOfLetter, .int v_lets])), (tokens_h, .inr (7, [.ref tokens_a_kinds, .ref tokens_a_values, .ref tokens_a_places, .int r1.1])), (tokens_a_kinds, .inl (gI G, 2001, .inl r1.2.1)), (tokens_a_values, .inl (gI G, 2001, .inl r1.2.2.1)), (tokens_a_places, .inl (gI G, 2001, .inl r1.2.2.2)), (conditions_h, .inr (8, [.ref conditions_a_steps, .ref conditions_a_values, .int 0, .ref conditions_a_stack, .int conditions__height, .ref conditions_a_holding])), (a_letOfLetter, .inl (gI G, 26, .inl f_letOfLetter)), (tx_h, .inr (4, [.ref tx_a_signs, .int tx__size])), (tx_a_signs, .inl (gC G, 2000, .inl tx_f_signs))] := hD
  refine lv_aload_n hx hb d_Scr_cut_20 rfl (lv_at hl 0 rfl) ?_
  refine va_get (D := G.1) (ci := 10) (C := R_Scr) (T := F_Scr) (N := 8) (v := .ref a_letOfLetter) hx hb hts i_Scr hown hK hP 0 rfl rfl 6 (by decide) (hts (.fieldLink R_Scr 43 "PrivateQueries$Script" "letOfLetter" "[I") k_127) (fun _ h9 => h9) rfl d_Scr_cut_21 ?_
  refine lv_iconst (v := -1) hx hb d_Scr_cut_24 (by decide) ?_
  obtain ⟨hv2, hok⟩ := hok
  obtain ⟨r2, hr2⟩ : ∃ r, (lp_Arr_fill26_5 (-1) 27 (0 : Int32) f_letOfLetter) = r := ⟨_, rfl⟩
  try simp only [hr2] at hok
  have hC_r2 := (c_Arr_fill26 l G a_letOfLetter f_letOfLetter (-1) hv2)
  rw [hr2] at hC_r2
  refine ly_callS (rest := []) (wf := [(h, .inr (10, [.ref tokens_h, .ref conditions_h, .ref a_questions, .int 0, .ref a_letStarts, .ref a_letEnds, .ref a_letOfLetter, .int v_lets])), (tokens_h, .inr (7, [.ref tokens_a_kinds, .ref tokens_a_values, .ref tokens_a_places, .int r1.1])), (tokens_a_kinds, .inl (gI G, 2001, .inl r1.2.1)), (tokens_a_values, .inl (gI G, 2001, .inl r1.2.2.1)), (tokens_a_places, .inl (gI G, 2001, .inl r1.2.2.2)), (conditions_h, .inr (8, [.ref conditions_a_steps, .ref conditions_a_values, .int 0, .ref conditions_a_stack, .int conditions__height, .ref conditions_a_holding])), (a_letOfLetter, .inl (gI G, 26, .inl r2)), (tx_h, .inr (4, [.ref tx_a_signs, .int tx__size])), (tx_a_signs, .inl (gC G, 2000, .inl tx_f_signs))]) ⟨hx, hb, hml, hown, hts⟩ hA hK hZ hP hD hS hC_r2 ⟨callB_of 2 hts g_Scr_56 rfl rfl rfl (hts (.initialized R_Arr) k_690) (hts (.methodLink R_Scr 56 y_Arr_fill) k_691) (by decide +kernel) ⟨Nat.le_of_ble_eq_true rfl, Nat.le_of_ble_eq_true rfl⟩, hts (.static y_Arr_fill) k_692⟩ [6] rfl (by decide) rfl rfl rfl hl.1 rfl (Nat.le_of_ble_eq_true rfl) d_Scr_cut_25 ⟨Nat.le_of_ble_eq_true rfl, Nat.le_of_ble_eq_true rfl⟩ (st1 := []) (c1 := 0) (s1 := 0) rfl rfl rfl (fun H locs hP hD hS => ?_)
  refine lv_aload_n hx hb d_Scr_cut_28 rfl (lv_at hl 0 rfl) ?_
  refine lv_iconst (v := 0) hx hb d_Scr_cut_29 (by decide) ?_
  refine va_put (D := G.1) (ci := 10) (v := .int 0) (ty := .int) (C := R_Scr) (T := F_Scr) (N := 8) hx hb hts i_Scr t_Scr t_Scr_ok n_Scr hown hK hP hD hS 0 rfl rfl 7 (by decide) (hts (.fieldLink R_Scr 46 "PrivateQueries$Script" "lets" "I") k_126) (fun _ h9 => h9) rfl (by decide +kernel) rfl rfl (Nat.le_of_ble_eq_true rfl) d_Scr_cut_30 (fun H locs hP hD hS => ?_)
  have hP : va_P G.1 classes [(h, .inr (10, [.ref tokens_h, .ref conditions_h, .ref a_questions, .int 0, .ref a_letStarts, .ref a_letEnds, .ref a_letOfLetter, .int 0])), (tokens_h, .inr (7, [.ref tokens_a_kinds, .ref tokens_a_values, .ref tokens_a_places, .int r1.1])), (tokens_a_kinds, .inl (gI G, 2001, .inl r1.2.1)), (tokens_a_values, .inl (gI G, 2001, .inl r1.2.2.1)), (tokens_a_places, .inl (gI G, 2001, .inl r1.2.2.2)), (conditions_h, .inr (8, [.ref conditions_a_steps, .ref conditions_a_values, .int 0, .ref conditions_a_stack, .int conditions__height, .ref conditions_a_holding])), (a_letOfLetter, .inl (gI G, 26, .inl r2)), (tx_h, .inr (4, [.ref tx_a_signs, .int tx__size])), (tx_a_signs, .inl (gC G, 2000, .inl tx_f_signs))] H := hP
  have hD : va_D A [(h, .inr (10, [.ref tokens_h, .ref conditions_h, .ref a_questions, .int 0, .ref a_letStarts, .ref a_letEnds, .ref a_letOfLetter, .int 0])), (tokens_h, .inr (7, [.ref tokens_a_kinds, .ref tokens_a_values, .ref tokens_a_places, .int r1.1])), (tokens_a_kinds, .inl (gI G, 2001, .inl r1.2.1)), (tokens_a_values, .inl (gI G, 2001, .inl r1.2.2.1)), (tokens_a_places, .inl (gI G, 2001, .inl r1.2.2.2)), (conditions_h, .inr (8, [.ref conditions_a_steps, .ref conditions_a_values, .int 0, .ref conditions_a_stack, .int conditions__height, .ref conditions_a_holding])), (a_letOfLetter, .inl (gI G, 26, .inl r2)), (tx_h, .inr (4, [.ref tx_a_signs, .int tx__size])), (tx_a_signs, .inl (gC G, 2000, .inl tx_f_signs))] := hD
  exact ly_vret hx hb hr hlocks hP hD hS d_Scr_cut_33 rfl (by rw [s_Scr_cut] <;> simp only [hr1, hr2])

set_option maxHeartbeats 4000000 in
set_option maxRecDepth 100000 in
theorem c_Scr_writeInto (l : Launch) (G : GG) (h : Nat) (tokens_h : Nat) (tokens_a_kinds : Nat) (tokens_a_values : Nat) (tokens_a_places : Nat) (conditions_h : Nat) (a_questions : Nat) (a_letStarts : Nat) (a_letEnds : Nat) (a_letOfLetter : Nat) (w_h : Nat) (w_a_signs : Nat) (tokens_f_kinds : Nat → Int32) (tokens_f_values : Nat → Int32) (tokens__size : Int32) (v_asked : Int32) (v_lets : Int32) (w_f_signs : Nat → Int32) (w__size : Int32) (hok : ok_Scr_writeInto tokens_f_kinds tokens_f_values tokens__size w_f_signs w__size) : Det l G y_Scr_writeInto w_Scr_writeInto (rmD 7) 0 0 [.ref h, .ref w_h] [(h, .inr (10, [.ref tokens_h, .ref conditions_h, .ref a_questions, .int v_asked, .ref a_letStarts, .ref a_letEnds, .ref a_letOfLetter, .int v_lets])), (tokens_h, .inr (7, [.ref tokens_a_kinds, .ref tokens_a_values, .ref tokens_a_places, .int tokens__size])), (tokens_a_kinds, .inl (gI G, 2001, .inl tokens_f_kinds)), (tokens_a_values, .inl (gI G, 2001, .inl tokens_f_values)), (w_h, .inr (5, [.ref w_a_signs, .int w__size])), (w_a_signs, .inl (gC G, 4000, .inl w_f_signs))] none [(h, .inr (10, [.ref tokens_h, .ref conditions_h, .ref a_questions, .int v_asked, .ref a_letStarts, .ref a_letEnds, .ref a_letOfLetter, .int v_lets])), (tokens_h, .inr (7, [.ref tokens_a_kinds, .ref tokens_a_values, .ref tokens_a_places, .int tokens__size])), (tokens_a_kinds, .inl (gI G, 2001, .inl tokens_f_kinds)), (tokens_a_values, .inl (gI G, 2001, .inl tokens_f_values)), (w_h, .inr (5, [.ref w_a_signs, .int (s_Scr_writeInto tokens_f_kinds tokens_f_values tokens__size w_f_signs w__size).1])), (w_a_signs, .inl (gC G, 4000, .inl (s_Scr_writeInto tokens_f_kinds tokens_f_values tokens__size w_f_signs w__size).2))] := by
  refine Det.of (cc := b_Scr_writeInto) (maxL := 2) (ret := none) (by decide) rfl (Nat.le_of_ble_eq_true rfl) ?_
  intro p e s m args below meth c A ls hx hb hr hml hown hts hlocks hin hA hK hZ hP hD hS hl
  have hts : ∀ w ∈ wG, w.before args s = true := fun w h => hts w (List.mem_cons_of_mem _ h)
  have hown : s.vm.findClass R_Scr = some m.cls := hown
  have hl : lv_has ls 2 [(0, .ref h), (1, .ref w_h)] := hl
  rw [ok_Scr_writeInto] at hok
  refine lv_aload_n hx hb d_Scr_writeInto_0 rfl (lv_at hl 0 rfl) ?_
  refine va_get (D := G.1) (ci := 10) (C := R_Scr) (T := F_Scr) (N := 8) (v := .ref tokens_h) hx hb hts i_Scr hown hK hP 0 rfl rfl 0 (by decide) (hts (.fieldLink R_Scr 14 "PrivateQueries$Script" "tokens" "LPrivateQueries$Tokens;") k_706) (fun _ h9 => h9) rfl d_Scr_writeInto_1 ?_
  refine lv_aload_n hx hb d_Scr_writeInto_4 rfl (lv_at hl 1 rfl) ?_
  obtain ⟨hv1, hok⟩ := hok
  obtain ⟨r1, hr1⟩ : ∃ r, (lp_Tok_writeInto_2 tokens_f_kinds tokens_f_values tokens__size 2002 (0 : Int32) w__size w_f_signs) = r := ⟨_, rfl⟩
  try simp only [hr1] at hok
  have hC_r1 := (c_Tok_writeInto l G tokens_h tokens_a_kinds tokens_a_values tokens_a_places w_h w_a_signs tokens_f_kinds tokens_f_values tokens__size w_f_signs w__size hv1)
  rw [hr1] at hC_r1
  have hc_ : ∀ (x0_ x1_ x2_ x3_ x4_ x5_ : Nat × va_E) (t_ : va_W), List.map (fun i => (x0_ :: x1_ :: x2_ :: x3_ :: x4_ :: x5_ :: t_)[i]?) [1, 2, 3, 4, 5] = List.map some [x1_, x2_, x3_, x4_, x5_] := fun _ _ _ _ _ _ _ => rfl
  have hf_ : ∀ (x0_ x1_ x2_ x3_ x4_ x5_ y1_ y2_ y3_ y4_ y5_ : Nat × va_E) (t_ : va_W), setAll (x0_ :: x1_ :: x2_ :: x3_ :: x4_ :: x5_ :: t_) [1, 2, 3, 4, 5] [y1_, y2_, y3_, y4_, y5_] = x0_ :: y1_ :: y2_ :: y3_ :: y4_ :: y5_ :: t_ := fun _ _ _ _ _ _ _ _ _ _ _ _ => Eq.trans (setAll_M (bs := [false, true, true, true, true, true]) trivial rfl) rfl
  refine ly_callV (rest := []) (wf := [(h, .inr (10, [.ref tokens_h, .ref conditions_h, .ref a_questions, .int v_asked, .ref a_letStarts, .ref a_letEnds, .ref a_letOfLetter, .int v_lets])), (tokens_h, .inr (7, [.ref tokens_a_kinds, .ref tokens_a_values, .ref tokens_a_places, .int tokens__size])), (tokens_a_kinds, .inl (gI G, 2001, .inl tokens_f_kinds)), (tokens_a_values, .inl (gI G, 2001, .inl tokens_f_values)), (w_h, .inr (5, [.ref w_a_signs, .int r1.1])), (w_a_signs, .inl (gC G, 4000, .inl r1.2))]) ⟨hx, hb, hml, hown, hts⟩ hA hK hZ hP hD hS hC_r1 (cwV 1 hts g_Scr_124 rfl rfl rfl (by decide +kernel) ⟨Nat.le_of_ble_eq_true rfl, Nat.le_of_ble_eq_true rfl⟩) (ci := 7) (q0 := 1) rfl rfl rfl [1, 2, 3, 4, 5] (hc_ _ _ _ _ _ _ _) (by decide) rfl (hf_ _ _ _ _ _ _ _ _ _ _ _ _) rfl hl.1 rfl (Nat.le_of_ble_eq_true rfl) d_Scr_writeInto_5 ⟨Nat.le_of_ble_eq_true rfl, Nat.le_of_ble_eq_true rfl⟩ (st1 := []) (c1 := 0) (s1 := 0) rfl rfl rfl (fun H locs hP hD hS => ?_)
  exact ly_vret hx hb hr hlocks hP hD hS d_Scr_writeInto_8 rfl (by rw [s_Scr_writeInto] <;> simp only [hr1])
