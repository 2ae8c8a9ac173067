theorem d_Tok_kindAt_0 : decode b_Tok_kindAt 0 = .ok (.iload_n 1, 1) := by decide +kernel
theorem d_Tok_kindAt_1 : decode b_Tok_kindAt 1 = .ok (.ifCond .lt 21, 3) := by decide +kernel
theorem d_Tok_kindAt_4 : decode b_Tok_kindAt 4 = .ok (.iload_n 1, 1) := by decide +kernel
theorem d_Tok_kindAt_5 : decode b_Tok_kindAt 5 = .ok (.aload_n 0, 1) := by decide +kernel
theorem d_Tok_kindAt_6 : decode b_Tok_kindAt 6 = .ok (.getfield 9, 3) := by decide +kernel
theorem d_Tok_kindAt_9 : decode b_Tok_kindAt 9 = .ok (.arraylength, 1) := by decide +kernel
theorem d_Tok_kindAt_10 : decode b_Tok_kindAt 10 = .ok (.if_icmp .ge 12, 3) := by decide +kernel
theorem d_Tok_kindAt_13 : decode b_Tok_kindAt 13 = .ok (.aload_n 0, 1) := by decide +kernel
theorem d_Tok_kindAt_14 : decode b_Tok_kindAt 14 = .ok (.getfield 9, 3) := by decide +kernel
theorem d_Tok_kindAt_17 : decode b_Tok_kindAt 17 = .ok (.iload_n 1, 1) := by decide +kernel
theorem d_Tok_kindAt_18 : decode b_Tok_kindAt 18 = .ok (.iaload, 1) := by decide +kernel
theorem d_Tok_kindAt_19 : decode b_Tok_kindAt 19 = .ok (.goto 4, 3) := by decide +kernel
theorem d_Tok_kindAt_22 : decode b_Tok_kindAt 22 = .ok (.iconst 0, 1) := by decide +kernel
theorem d_Tok_kindAt_23 : decode b_Tok_kindAt 23 = .ok (.ireturn, 1) := by decide +kernel
theorem d_Tok_valueAt_0 : decode b_Tok_valueAt 0 = .ok (.iload_n 1, 1) := by decide +kernel
theorem d_Tok_valueAt_1 : decode b_Tok_valueAt 1 = .ok (.ifCond .lt 21, 3) := by decide +kernel
theorem d_Tok_valueAt_4 : decode b_Tok_valueAt 4 = .ok (.iload_n 1, 1) := by decide +kernel
theorem d_Tok_valueAt_5 : decode b_Tok_valueAt 5 = .ok (.aload_n 0, 1) := by decide +kernel
theorem d_Tok_valueAt_6 : decode b_Tok_valueAt 6 = .ok (.getfield 15, 3) := by decide +kernel
theorem d_Tok_valueAt_9 : decode b_Tok_valueAt 9 = .ok (.arraylength, 1) := by decide +kernel
theorem d_Tok_valueAt_10 : decode b_Tok_valueAt 10 = .ok (.if_icmp .ge 12, 3) := by decide +kernel
theorem d_Tok_valueAt_13 : decode b_Tok_valueAt 13 = .ok (.aload_n 0, 1) := by decide +kernel
theorem d_Tok_valueAt_14 : decode b_Tok_valueAt 14 = .ok (.getfield 15, 3) := by decide +kernel
theorem d_Tok_valueAt_17 : decode b_Tok_valueAt 17 = .ok (.iload_n 1, 1) := by decide +kernel
theorem d_Tok_valueAt_18 : decode b_Tok_valueAt 18 = .ok (.iaload, 1) := by decide +kernel
theorem d_Tok_valueAt_19 : decode b_Tok_valueAt 19 = .ok (.goto 4, 3) := by decide +kernel
theorem d_Tok_valueAt_22 : decode b_Tok_valueAt 22 = .ok (.iconst 0, 1) := by decide +kernel
theorem d_Tok_valueAt_23 : decode b_Tok_valueAt 23 = .ok (.ireturn, 1) := by decide +kernel
theorem d_Tok_put_0 : decode b_Tok_put 0 = .ok (.aload_n 0, 1) := by decide +kernel
theorem d_Tok_put_1 : decode b_Tok_put 1 = .ok (.getfield 21, 3) := by decide +kernel
theorem d_Tok_put_4 : decode b_Tok_put 4 = .ok (.aload_n 0, 1) := by decide +kernel
theorem d_Tok_put_5 : decode b_Tok_put 5 = .ok (.getfield 9, 3) := by decide +kernel
theorem d_Tok_put_8 : decode b_Tok_put 8 = .ok (.arraylength, 1) := by decide +kernel
theorem d_Tok_put_9 : decode b_Tok_put 9 = .ok (.if_icmp .ge 57, 3) := by decide +kernel
theorem d_Tok_put_12 : decode b_Tok_put 12 = .ok (.aload_n 0, 1) := by decide +kernel
theorem d_Tok_put_13 : decode b_Tok_put 13 = .ok (.getfield 21, 3) := by decide +kernel
theorem d_Tok_put_16 : decode b_Tok_put 16 = .ok (.aload_n 0, 1) := by decide +kernel
theorem d_Tok_put_17 : decode b_Tok_put 17 = .ok (.getfield 15, 3) := by decide +kernel
theorem d_Tok_put_20 : decode b_Tok_put 20 = .ok (.arraylength, 1) := by decide +kernel
theorem d_Tok_put_21 : decode b_Tok_put 21 = .ok (.if_icmp .ge 45, 3) := by decide +kernel
theorem d_Tok_put_24 : decode b_Tok_put 24 = .ok (.aload_n 0, 1) := by decide +kernel
theorem d_Tok_put_25 : decode b_Tok_put 25 = .ok (.getfield 21, 3) := by decide +kernel
theorem d_Tok_put_28 : decode b_Tok_put 28 = .ok (.aload_n 0, 1) := by decide +kernel
theorem d_Tok_put_29 : decode b_Tok_put 29 = .ok (.getfield 18, 3) := by decide +kernel
theorem d_Tok_put_32 : decode b_Tok_put 32 = .ok (.arraylength, 1) := by decide +kernel
theorem d_Tok_put_33 : decode b_Tok_put 33 = .ok (.if_icmp .ge 33, 3) := by decide +kernel
theorem d_Tok_put_36 : decode b_Tok_put 36 = .ok (.aload_n 0, 1) := by decide +kernel
theorem d_Tok_put_37 : decode b_Tok_put 37 = .ok (.getfield 9, 3) := by decide +kernel
theorem d_Tok_put_40 : decode b_Tok_put 40 = .ok (.aload_n 0, 1) := by decide +kernel
theorem d_Tok_put_41 : decode b_Tok_put 41 = .ok (.getfield 21, 3) := by decide +kernel
theorem d_Tok_put_44 : decode b_Tok_put 44 = .ok (.iload_n 1, 1) := by decide +kernel
theorem d_Tok_put_45 : decode b_Tok_put 45 = .ok (.iastore, 1) := by decide +kernel
theorem d_Tok_put_46 : decode b_Tok_put 46 = .ok (.aload_n 0, 1) := by decide +kernel
theorem d_Tok_put_47 : decode b_Tok_put 47 = .ok (.getfield 15, 3) := by decide +kernel
theorem d_Tok_put_50 : decode b_Tok_put 50 = .ok (.aload_n 0, 1) := by decide +kernel
theorem d_Tok_put_51 : decode b_Tok_put 51 = .ok (.getfield 21, 3) := by decide +kernel
theorem d_Tok_put_54 : decode b_Tok_put 54 = .ok (.iload_n 2, 1) := by decide +kernel
theorem d_Tok_put_55 : decode b_Tok_put 55 = .ok (.iastore, 1) := by decide +kernel
theorem d_Tok_put_56 : decode b_Tok_put 56 = .ok (.aload_n 0, 1) := by decide +kernel
theorem d_Tok_put_57 : decode b_Tok_put 57 = .ok (.getfield 18, 3) := by decide +kernel
theorem d_Tok_put_60 : decode b_Tok_put 60 = .ok (.aload_n 0, 1) := by decide +kernel
theorem d_Tok_put_61 : decode b_Tok_put 61 = .ok (.getfield 21, 3) := by decide +kernel
theorem d_Tok_put_64 : decode b_Tok_put 64 = .ok (.iload_n 3, 1) := by decide +kernel
theorem d_Tok_put_65 : decode b_Tok_put 65 = .ok (.iastore, 1) := by decide +kernel
theorem d_Tok_put_66 : decode b_Tok_put 66 = .ok (.return_, 1) := by decide +kernel
theorem d_Tok_isIdle_0 : decode b_Tok_isIdle 0 = .ok (.aload_n 0, 1) := by decide +kernel
theorem d_Tok_isIdle_1 : decode b_Tok_isIdle 1 = .ok (.iload_n 1, 1) := by decide +kernel
theorem d_Tok_isIdle_2 : decode b_Tok_isIdle 2 = .ok (.invokevirtual 86, 3) := by decide +kernel
theorem d_Tok_isIdle_5 : decode b_Tok_isIdle 5 = .ok (.bipush 11, 2) := by decide +kernel
theorem d_Tok_isIdle_7 : decode b_Tok_isIdle 7 = .ok (.if_icmp .ne 18, 3) := by decide +kernel
theorem d_Tok_isIdle_10 : decode b_Tok_isIdle 10 = .ok (.aload_n 0, 1) := by decide +kernel
theorem d_Tok_isIdle_11 : decode b_Tok_isIdle 11 = .ok (.iload_n 1, 1) := by decide +kernel
theorem d_Tok_isIdle_12 : decode b_Tok_isIdle 12 = .ok (.iconst 1, 1) := by decide +kernel
theorem d_Tok_isIdle_13 : decode b_Tok_isIdle 13 = .ok (.iadd, 1) := by decide +kernel
theorem d_Tok_isIdle_14 : decode b_Tok_isIdle 14 = .ok (.invokevirtual 90, 3) := by decide +kernel
theorem d_Tok_isIdle_17 : decode b_Tok_isIdle 17 = .ok (.iconst 1, 1) := by decide +kernel
theorem d_Tok_isIdle_18 : decode b_Tok_isIdle 18 = .ok (.if_icmp .ne 7, 3) := by decide +kernel
theorem d_Tok_isIdle_21 : decode b_Tok_isIdle 21 = .ok (.iconst 1, 1) := by decide +kernel
theorem d_Tok_isIdle_22 : decode b_Tok_isIdle 22 = .ok (.goto 4, 3) := by decide +kernel
theorem d_Tok_isIdle_25 : decode b_Tok_isIdle 25 = .ok (.iconst 0, 1) := by decide +kernel
theorem d_Tok_isIdle_26 : decode b_Tok_isIdle 26 = .ok (.ireturn, 1) := by decide +kernel
theorem k_63 : (.fieldLink R_Tok 9 "PrivateQueries$Tokens" "kinds" "[I" : Cond) ∈ wG := wGm 220 (by decide +kernel) (by decide +kernel)
theorem k_64 : (.fieldLink R_Tok 15 "PrivateQueries$Tokens" "values" "[I" : Cond) ∈ wG := wGm 222 (by decide +kernel) (by decide +kernel)
theorem k_65 : (.fieldLink R_Tok 21 "PrivateQueries$Tokens" "size" "I" : Cond) ∈ wG := wGm 226 (by decide +kernel) (by decide +kernel)
theorem k_66 : (.fieldLink R_Tok 18 "PrivateQueries$Tokens" "places" "[I" : Cond) ∈ wG := wGm 224 (by decide +kernel) (by decide +kernel)
theorem k_67 : (.methodLink R_Tok 86 y_Tok_kindAt : Cond) ∈ wG := wGm 883 (by decide +kernel) (by decide +kernel)
theorem k_68 : (.instanceMethod y_Tok_kindAt : Cond) ∈ wG := wGm 885 (by decide +kernel) (by decide +kernel)
theorem k_69 : (.selects R_Tok y_Tok_kindAt y_Tok_kindAt : Cond) ∈ wG := wGm 30 (by decide +kernel) (by decide +kernel)
theorem k_70 : (.initialized R_Tok : Cond) ∈ wG := wGm 94 (by decide +kernel) (by decide +kernel)
theorem k_71 : (.code y_Tok_kindAt b_Tok_kindAt 2 (some .int) : Cond) ∈ wG := wGm 886 (by decide +kernel) (by decide +kernel)
theorem k_72 : (.methodLink R_Tok 90 y_Tok_valueAt : Cond) ∈ wG := wGm 887 (by decide +kernel) (by decide +kernel)
theorem k_73 : (.instanceMethod y_Tok_valueAt : Cond) ∈ wG := wGm 889 (by decide +kernel) (by decide +kernel)
theorem k_74 : (.selects R_Tok y_Tok_valueAt y_Tok_valueAt : Cond) ∈ wG := wGm 31 (by decide +kernel) (by decide +kernel)
theorem k_75 : (.code y_Tok_valueAt b_Tok_valueAt 2 (some .int) : Cond) ∈ wG := wGm 890 (by decide +kernel) (by decide +kernel)
theorem g_Tok_86 : GoodIn wG (wsV R_Tok 86 R_Tok y_Tok_kindAt w_Tok_kindAt) := wGa (fun w hw => by
  rcases List.mem_cons.mp hw with e | hw
  · exact e ▸ k_67
  rcases List.mem_cons.mp hw with e | hw
  · exact e ▸ k_68
  rcases List.mem_cons.mp hw with e | hw
  · exact e ▸ k_69
  rcases List.mem_cons.mp hw with e | hw
  · exact e ▸ k_70
  · exact absurd hw List.not_mem_nil) (wGc k_71)
theorem g_Tok_90 : GoodIn wG (wsV R_Tok 90 R_Tok y_Tok_valueAt w_Tok_valueAt) := wGa (fun w hw => by
  rcases List.mem_cons.mp hw with e | hw
  · exact e ▸ k_72
  rcases List.mem_cons.mp hw with e | hw
  · exact e ▸ k_73
  rcases List.mem_cons.mp hw with e | hw
  · exact e ▸ k_74
  rcases List.mem_cons.mp hw with e | hw
  · exact e ▸ k_70
  · exact absurd hw List.not_mem_nil) (wGc k_75)
set_option maxHeartbeats 4000000 in
set_option maxRecDepth 100000 in
theorem c_Tok_kindAt (l : Launch) (G : GG) (h : Nat) (a_kinds : Nat) (a_values : Nat) (a_places : Nat) (f_kinds : Nat → Int32) (v_size : Int32) (x : Int32) : Det l G y_Tok_kindAt w_Tok_kindAt (rmD 0) 0 0 [.ref h, .int x] [(h, .inr (7, [.ref a_kinds, .ref a_values, .ref a_places, .int v_size])), (a_kinds, .inl (gI G, 2001, .inl f_kinds))] (some (.int (s_Tok_kindAt f_kinds x))) [(h, .inr (7, [.ref a_kinds, .ref a_values, .ref a_places, .int v_size])), (a_kinds, .inl (gI G, 2001, .inl f_kinds))] := by
  refine Det.of (cc := b_Tok_kindAt) (maxL := 2) (ret := (some .int)) (by decide) rfl (Nat.le_of_ble_eq_true rfl) ?_
  intro p e s m args below meth c A ls hx hb hr hml hown hts hlocks hin hA hK hZ hP hD hS hl
  have hts : ∀ w ∈ wG, w.before args s = true := fun w h => hts w (List.mem_cons_of_mem _ h)
  have hown : s.vm.findClass R_Tok = some m.cls := hown
  have hl : lv_has ls 2 [(0, .ref h), (1, .int x)] := hl
  refine lv_iload_n hx hb d_Tok_kindAt_0 rfl (lv_at hl 1 rfl) ?_
  refine lv_if_lt (tgt := 22) hx hb d_Tok_kindAt_1 (by decide) (fun c1 => ?_) (fun c1 => ?_)
  · skip
    refine lv_iconst (v := 0) hx hb d_Tok_kindAt_22 (by decide) ?_
    exact ly_iret hx hb hr hlocks hP hD hS d_Tok_kindAt_23 (by rw [s_Tok_kindAt, if_pos c1]) rfl
  refine lv_iload_n hx hb d_Tok_kindAt_4 rfl (lv_at hl 1 rfl) ?_
  refine lv_aload_n hx hb d_Tok_kindAt_5 rfl (lv_at hl 0 rfl) ?_
  refine va_get (D := G.1) (ci := 7) (C := R_Tok) (T := F_Tok) (N := 4) (v := .ref a_kinds) hx hb hts i_Tok hown hK hP 0 rfl rfl 0 (by decide) (hts (.fieldLink R_Tok 9 "PrivateQueries$Tokens" "kinds" "[I") k_63) (fun _ h9 => h9) rfl d_Tok_kindAt_6 ?_
  refine va_alen (v := 2001) hx hb hK hP 1 0 rfl rfl (show Int32.ofNat 2001 = 2001 by decide) d_Tok_kindAt_9 ?_
  refine lv_icmp_ge (tgt := 22) hx hb d_Tok_kindAt_10 (by decide) (fun c2 => ?_) (fun c2 => ?_)
  · skip
    refine lv_iconst (v := 0) hx hb d_Tok_kindAt_22 (by decide) ?_
    exact ly_iret hx hb hr hlocks hP hD hS d_Tok_kindAt_23 (by rw [s_Tok_kindAt, if_neg c1, if_pos c2]) rfl
  refine lv_aload_n hx hb d_Tok_kindAt_13 rfl (lv_at hl 0 rfl) ?_
  refine va_get (D := G.1) (ci := 7) (C := R_Tok) (T := F_Tok) (N := 4) (v := .ref a_kinds) hx hb hts i_Tok hown hK hP 0 rfl rfl 0 (by decide) (hts (.fieldLink R_Tok 9 "PrivateQueries$Tokens" "kinds" "[I") k_63) (fun _ h9 => h9) rfl d_Tok_kindAt_14 ?_
  refine lv_iload_n hx hb d_Tok_kindAt_17 rfl (lv_at hl 1 rfl) ?_
  refine va_iald hx hb hK hP 1 0 rfl rfl (ly_mk (ly_lo c1) (ly_hi (by decide) c2)) d_Tok_kindAt_18 ?_
  refine lv_goto (tgt := 23) hx hb d_Tok_kindAt_19 (by decide) ?_
  exact ly_iret hx hb hr hlocks hP hD hS d_Tok_kindAt_23 (by rw [s_Tok_kindAt, if_neg c1, if_neg c2]) rfl

set_option maxHeartbeats 4000000 in
set_option maxRecDepth 100000 in
theorem c_Tok_valueAt (l : Launch) (G : GG) (h : Nat) (a_kinds : Nat) (a_values : Nat) (a_places : Nat) (f_values : Nat → Int32) (v_size : Int32) (x : Int32) : Det l G y_Tok_valueAt w_Tok_valueAt (rmD 0) 0 0 [.ref h, .int x] [(h, .inr (7, [.ref a_kinds, .ref a_values, .ref a_places, .int v_size])), (a_values, .inl (gI G, 2001, .inl f_values))] (some (.int (s_Tok_valueAt f_values x))) [(h, .inr (7, [.ref a_kinds, .ref a_values, .ref a_places, .int v_size])), (a_values, .inl (gI G, 2001, .inl f_values))] := by
  refine Det.of (cc := b_Tok_valueAt) (maxL := 2) (ret := (some .int)) (by decide) rfl (Nat.le_of_ble_eq_true rfl) ?_
  intro p e s m args below meth c A ls hx hb hr hml hown hts hlocks hin hA hK hZ hP hD hS hl
  have hts : ∀ w ∈ wG, w.before args s = true := fun w h => hts w (List.mem_cons_of_mem _ h)
  have hown : s.vm.findClass R_Tok = some m.cls := hown
  have hl : lv_has ls 2 [(0, .ref h), (1, .int x)] := hl
  refine lv_iload_n hx hb d_Tok_valueAt_0 rfl (lv_at hl 1 rfl) ?_
  refine lv_if_lt (tgt := 22) hx hb d_Tok_valueAt_1 (by decide) (fun c1 => ?_) (fun c1 => ?_)
  · skip
    refine lv_iconst (v := 0) hx hb d_Tok_valueAt_22 (by decide) ?_
    exact ly_iret hx hb hr hlocks hP hD hS d_Tok_valueAt_23 (by rw [s_Tok_valueAt, if_pos c1]) rfl
  refine lv_iload_n hx hb d_Tok_valueAt_4 rfl (lv_at hl 1 rfl) ?_
  refine lv_aload_n hx hb d_Tok_valueAt_5 rfl (lv_at hl 0 rfl) ?_
  refine va_get (D := G.1) (ci := 7) (C := R_Tok) (T := F_Tok) (N := 4) (v := .ref a_values) hx hb hts i_Tok hown hK hP 0 rfl rfl 1 (by decide) (hts (.fieldLink R_Tok 15 "PrivateQueries$Tokens" "values" "[I") k_64) (fun _ h9 => h9) rfl d_Tok_valueAt_6 ?_
  refine va_alen (v := 2001) hx hb hK hP 1 0 rfl rfl (show Int32.ofNat 2001 = 2001 by decide) d_Tok_valueAt_9 ?_
  refine lv_icmp_ge (tgt := 22) hx hb d_Tok_valueAt_10 (by decide) (fun c2 => ?_) (fun c2 => ?_)
  · skip
    refine lv_iconst (v := 0) hx hb d_Tok_valueAt_22 (by decide) ?_
    exact ly_iret hx hb hr hlocks hP hD hS d_Tok_valueAt_23 (by rw [s_Tok_valueAt, if_neg c1, if_pos c2]) rfl
  refine lv_aload_n hx hb d_Tok_valueAt_13 rfl (lv_at hl 0 rfl) ?_
  refine va_get (D := G.1) (ci := 7) (C := R_Tok) (T := F_Tok) (N := 4) (v := .ref a_values) hx hb hts i_Tok hown hK hP 0 rfl rfl 1 (by decide) (hts (.fieldLink R_Tok 15 "PrivateQueries$Tokens" "values" "[I") k_64) (fun _ h9 => h9) rfl d_Tok_valueAt_14 ?_
  refine lv_iload_n hx hb d_Tok_valueAt_17 rfl (lv_at hl 1 rfl) ?_
  refine va_iald hx hb hK hP 1 0 rfl rfl (ly_mk (ly_lo c1) (ly_hi (by decide) c2)) d_Tok_valueAt_18 ?_
  refine lv_goto (tgt := 23) hx hb d_Tok_valueAt_19 (by decide) ?_
  exact ly_iret hx hb hr hlocks hP hD hS d_Tok_valueAt_23 (by rw [s_Tok_valueAt, if_neg c1, if_neg c2]) rfl

set_option maxHeartbeats 4000000 in
set_option maxRecDepth 100000 in
theorem c_Tok_put (l : Launch) (G : GG) (h : Nat) (a_kinds : Nat) (a_values : Nat) (a_places : Nat) (f_kinds : Nat → Int32) (f_values : Nat → Int32) (f_places : Nat → Int32) (v_size : Int32) (x : Int32) (z : Int32) (v : Int32) (hz_v_size : up v_size 2001) : Det l G y_Tok_put w_Tok_put (rmD 0) 0 0 [.ref h, .int x, .int z, .int v] [(h, .inr (7, [.ref a_kinds, .ref a_values, .ref a_places, .int v_size])), (a_kinds, .inl (gI G, 2001, .inl f_kinds)), (a_values, .inl (gI G, 2001, .inl f_values)), (a_places, .inl (gI G, 2001, .inl f_places))] none [(h, .inr (7, [.ref a_kinds, .ref a_values, .ref a_places, .int v_size])), (a_kinds, .inl (gI G, 2001, .inl (s_Tok_put f_kinds f_values f_places v_size x z v).1)), (a_values, .inl (gI G, 2001, .inl (s_Tok_put f_kinds f_values f_places v_size x z v).2.1)), (a_places, .inl (gI G, 2001, .inl (s_Tok_put f_kinds f_values f_places v_size x z v).2.2))] := by
  refine Det.of (cc := b_Tok_put) (maxL := 4) (ret := none) (by decide) rfl (Nat.le_of_ble_eq_true rfl) ?_
  intro p e s m args below meth c A ls hx hb hr hml hown hts hlocks hin hA hK hZ hP hD hS hl
  have hts : ∀ w ∈ wG, w.before args s = true := fun w h => hts w (List.mem_cons_of_mem _ h)
  have hown : s.vm.findClass R_Tok = some m.cls := hown
  have hl : lv_has ls 4 [(0, .ref h), (1, .int x), (2, .int z), (3, .int v)] := hl
  refine lv_aload_n hx hb d_Tok_put_0 rfl (lv_at hl 0 rfl) ?_
  refine va_get (D := G.1) (ci := 7) (C := R_Tok) (T := F_Tok) (N := 4) (v := .int v_size) hx hb hts i_Tok hown hK hP 0 rfl rfl 3 (by decide) (hts (.fieldLink R_Tok 21 "PrivateQueries$Tokens" "size" "I") k_65) (fun _ h9 => h9) rfl d_Tok_put_1 ?_
  refine lv_aload_n hx hb d_Tok_put_4 rfl (lv_at hl 0 rfl) ?_
  refine va_get (D := G.1) (ci := 7) (C := R_Tok) (T := F_Tok) (N := 4) (v := .ref a_kinds) hx hb hts i_Tok hown hK hP 0 rfl rfl 0 (by decide) (hts (.fieldLink R_Tok 9 "PrivateQueries$Tokens" "kinds" "[I") k_63) (fun _ h9 => h9) rfl d_Tok_put_5 ?_
  refine va_alen (v := 2001) hx hb hK hP 1 0 rfl rfl (show Int32.ofNat 2001 = 2001 by decide) d_Tok_put_8 ?_
  refine lv_icmp_ge (tgt := 66) hx hb d_Tok_put_9 (by decide) (fun c1 => ?_) (fun c1 => ?_)
  · skip
    exact ly_vret hx hb hr hlocks hP hD hS d_Tok_put_66 rfl (by rw [s_Tok_put, if_pos c1])
  refine lv_aload_n hx hb d_Tok_put_12 rfl (lv_at hl 0 rfl) ?_
  refine va_get (D := G.1) (ci := 7) (C := R_Tok) (T := F_Tok) (N := 4) (v := .int v_size) hx hb hts i_Tok hown hK hP 0 rfl rfl 3 (by decide) (hts (.fieldLink R_Tok 21 "PrivateQueries$Tokens" "size" "I") k_65) (fun _ h9 => h9) rfl d_Tok_put_13 ?_
  refine lv_aload_n hx hb d_Tok_put_16 rfl (lv_at hl 0 rfl) ?_
  refine va_get (D := G.1) (ci := 7) (C := R_Tok) (T := F_Tok) (N := 4) (v := .ref a_values) hx hb hts i_Tok hown hK hP 0 rfl rfl 1 (by decide) (hts (.fieldLink R_Tok 15 "PrivateQueries$Tokens" "values" "[I") k_64) (fun _ h9 => h9) rfl d_Tok_put_17 ?_
  refine va_alen (v := 2001) hx hb hK hP 2 0 rfl rfl (show Int32.ofNat 2001 = 2001 by decide) d_Tok_put_20 ?_
  refine lv_icmp_ge (tgt := 66) hx hb d_Tok_put_21 (by decide) (fun c2 => ?_) (fun c2 => ?_)
  · skip
    exact ly_vret hx hb hr hlocks hP hD hS d_Tok_put_66 rfl (by rw [s_Tok_put, if_neg c1, if_pos c2])
  refine lv_aload_n hx hb d_Tok_put_24 rfl (lv_at hl 0 rfl) ?_
  refine va_get (D := G.1) (ci := 7) (C := R_Tok) (T := F_Tok) (N := 4) (v := .int v_size) hx hb hts i_Tok hown hK hP 0 rfl rfl 3 (by decide) (hts (.fieldLink R_Tok 21 "PrivateQueries$Tokens" "size" "I") k_65) (fun _ h9 => h9) rfl d_Tok_put_25 ?_
  refine lv_aload_n hx hb d_Tok_put_28 rfl (lv_at hl 0 rfl) ?_
  refine va_get (D := G.1) (ci := 7) (C := R_Tok) (T := F_Tok) (N := 4) (v := .ref a_places) hx hb hts i_Tok hown hK hP 0 rfl rfl 2 (by decide) (hts (.fieldLink R_Tok 18 "PrivateQueries$Tokens" "places" "[I") k_66) (fun _ h9 => h9) rfl d_Tok_put_29 ?_
  refine va_alen (v := 2001) hx hb hK hP 3 0 rfl rfl (show Int32.ofNat 2001 = 2001 by decide) d_Tok_put_32 ?_
  refine lv_icmp_ge (tgt := 66) hx hb d_Tok_put_33 (by decide) (fun c3 => ?_) (fun c3 => ?_)
  · skip
    exact ly_vret hx hb hr hlocks hP hD hS d_Tok_put_66 rfl (by rw [s_Tok_put, if_neg c1, if_neg c2, if_pos c3])
  refine lv_aload_n hx hb d_Tok_put_36 rfl (lv_at hl 0 rfl) ?_
  refine va_get (D := G.1) (ci := 7) (C := R_Tok) (T := F_Tok) (N := 4) (v := .ref a_kinds) hx hb hts i_Tok hown hK hP 0 rfl rfl 0 (by decide) (hts (.fieldLink R_Tok 9 "PrivateQueries$Tokens" "kinds" "[I") k_63) (fun _ h9 => h9) rfl d_Tok_put_37 ?_
  refine lv_aload_n hx hb d_Tok_put_40 rfl (lv_at hl 0 rfl) ?_
  refine va_get (D := G.1) (ci := 7) (C := R_Tok) (T := F_Tok) (N := 4) (v := .int v_size) hx hb hts i_Tok hown hK hP 0 rfl rfl 3 (by decide) (hts (.fieldLink R_Tok 21 "PrivateQueries$Tokens" "size" "I") k_65) (fun _ h9 => h9) rfl d_Tok_put_41 ?_
  refine lv_iload_n hx hb d_Tok_put_44 rfl (lv_at hl 1 rfl) ?_
  refine va_iast hx hb hK hP hD hS 1 0 rfl rfl (ly_mk hz_v_size.1 (ly_hi (by decide) c3)) d_Tok_put_45 (fun H locs hP hD hS => ?_)
  have hP : va_P G.1 classes [(h, .inr (7, [.ref a_kinds, .ref a_values, .ref a_places, .int v_size])), (a_kinds, .inl (gI G, 2001, .inl (upd f_kinds v_size.toNatClampNeg x))), (a_values, .inl (gI G, 2001, .inl f_values)), (a_places, .inl (gI G, 2001, .inl f_places))] H := hP
  have hD : va_D A [(h, .inr (7, [.ref a_kinds, .ref a_values, .ref a_places, .int v_size])), (a_kinds, .inl (gI G, 2001, .inl (upd f_kinds v_size.toNatClampNeg x))), (a_values, .inl (gI G, 2001, .inl f_values)), (a_places, .inl (gI G, 2001, .inl f_places))] := hD
  refine lv_aload_n hx hb d_Tok_put_46 rfl (lv_at hl 0 rfl) ?_
  refine va_get (D := G.1) (ci := 7) (C := R_Tok) (T := F_Tok) (N := 4) (v := .ref a_values) hx hb hts i_Tok hown hK hP 0 rfl rfl 1 (by decide) (hts (.fieldLink R_Tok 15 "PrivateQueries$Tokens" "values" "[I") k_64) (fun _ h9 => h9) rfl d_Tok_put_47 ?_
  refine lv_aload_n hx hb d_Tok_put_50 rfl (lv_at hl 0 rfl) ?_
  refine va_get (D := G.1) (ci := 7) (C := R_Tok) (T := F_Tok) (N := 4) (v := .int v_size) hx hb hts i_Tok hown hK hP 0 rfl rfl 3 (by decide) (hts (.fieldLink R_Tok 21 "PrivateQueries$Tokens" "size" "I") k_65) (fun _ h9 => h9) rfl d_Tok_put_51 ?_
  refine lv_iload_n hx hb d_Tok_put_54 rfl (lv_at hl 2 rfl) ?_
  refine va_iast hx hb hK hP hD hS 2 0 rfl rfl (ly_mk hz_v_size.1 (ly_hi (by decide) c3)) d_Tok_put_55 (fun H locs hP hD hS => ?_)
  have hP : va_P G.1 classes [(h, .inr (7, [.ref a_kinds, .ref a_values, .ref a_places, .int v_size])), (a_kinds, .inl (gI G, 2001, .inl (upd f_kinds v_size.toNatClampNeg x))), (a_values, .inl (gI G, 2001, .inl (upd f_values v_size.toNatClampNeg z))), (a_places, .inl (gI G, 2001, .inl f_places))] H := hP
  have hD : va_D A [(h, .inr (7, [.ref a_kinds, .ref a_values, .ref a_places, .int v_size])), (a_kinds, .inl (gI G, 2001, .inl (upd f_kinds v_size.toNatClampNeg x))), (a_values, .inl (gI G, 2001, .inl (upd f_values v_size.toNatClampNeg z))), (a_places, .inl (gI G, 2001, .inl f_places))] := hD
  refine lv_aload_n hx hb d_Tok_put_56 rfl (lv_at hl 0 rfl) ?_
  refine va_get (D := G.1) (ci := 7) (C := R_Tok) (T := F_Tok) (N := 4) (v := .ref a_places) hx hb hts i_Tok hown hK hP 0 rfl rfl 2 (by decide) (hts (.fieldLink R_Tok 18 "PrivateQueries$Tokens" "places" "[I") k_66) (fun _ h9 => h9) rfl d_Tok_put_57 ?_
  refine lv_aload_n hx hb d_Tok_put_60 rfl (lv_at hl 0 rfl) ?_
  refine va_get (D := G.1) (ci := 7) (C := R_Tok) (T := F_Tok) (N := 4) (v := .int v_size) hx hb hts i_Tok hown hK hP 0 rfl rfl 3 (by decide) (hts (.fieldLink R_Tok 21 "PrivateQueries$Tokens" "size" "I") k_65) (fun _ h9 => h9) rfl d_Tok_put_61 ?_
  refine lv_iload_n hx hb d_Tok_put_64 rfl (lv_at hl 3 rfl) ?_
  refine va_iast hx hb hK hP hD hS 3 0 rfl rfl (ly_mk hz_v_size.1 (ly_hi (by decide) c3)) d_Tok_put_65 (fun H locs hP hD hS => ?_)
  have hP : va_P G.1 classes [(h, .inr (7, [.ref a_kinds, .ref a_values, .ref a_places, .int v_size])), (a_kinds, .inl (gI G, 2001, .inl (upd f_kinds v_size.toNatClampNeg x))), (a_values, .inl (gI G, 2001, .inl (upd f_values v_size.toNatClampNeg z))), (a_places, .inl (gI G, 2001, .inl (upd f_places v_size.toNatClampNeg v)))] H := hP
  have hD : va_D A [(h, .inr (7, [.ref a_kinds, .ref a_values, .ref a_places, .int v_size])), (a_kinds, .inl (gI G, 2001, .inl (upd f_kinds v_size.toNatClampNeg x))), (a_values, .inl (gI G, 2001, .inl (upd f_values v_size.toNatClampNeg z))), (a_places, .inl (gI G, 2001, .inl (upd f_places v_size.toNatClampNeg v)))] := hD
  exact ly_vret hx hb hr hlocks hP hD hS d_Tok_put_66 rfl (by rw [s_Tok_put, if_neg c1, if_neg c2, if_neg c3])

theorem z_Tok_isIdle {f_kinds : Nat → Int32} {f_values : Nat → Int32} {x : Int32} : isB (s_Tok_isIdle f_kinds f_values x) := by
  obtain ⟨r1, hr1⟩ : ∃ r, (s_Tok_kindAt f_kinds x) = r := ⟨_, rfl⟩
  obtain ⟨r2, hr2⟩ : ∃ r, (s_Tok_valueAt f_values (x + 1)) = r := ⟨_, rfl⟩
  rw [s_Tok_isIdle]
  simp only [hr1, hr2]
  by_cases ct1 : r1 = 11
  · rw [if_pos ct1]
    by_cases ct2 : r2 = 1
    · rw [if_pos ct2]
      first | exact isB_0 | exact isB_1 | assumption
    rw [if_neg ct2]
    first | exact isB_0 | exact isB_1 | assumption
  rw [if_neg ct1]
  first | exact isB_0 | exact isB_1 | assumption
set_option maxHeartbeats 4000000 in
set_option maxRecDepth 100000 in
theorem c_Tok_isIdle (l : Launch) (G : GG) (h : Nat) (a_kinds : Nat) (a_values : Nat) (a_places : Nat) (f_kinds : Nat → Int32) (f_values : Nat → Int32) (v_size : Int32) (x : Int32) : Det l G y_Tok_isIdle w_Tok_isIdle (rmD 1) 0 0 [.ref h, .int x] [(h, .inr (7, [.ref a_kinds, .ref a_values, .ref a_places, .int v_size])), (a_kinds, .inl (gI G, 2001, .inl f_kinds)), (a_values, .inl (gI G, 2001, .inl f_values))] (some (.int (s_Tok_isIdle f_kinds f_values x))) [(h, .inr (7, [.ref a_kinds, .ref a_values, .ref a_places, .int v_size])), (a_kinds, .inl (gI G, 2001, .inl f_kinds)), (a_values, .inl (gI G, 2001, .inl f_values))] := by
  refine Det.of (cc := b_Tok_isIdle) (maxL := 2) (ret := (some .boolean)) (by decide) rfl (Nat.le_of_ble_eq_true rfl) ?_
  intro p e s m args below meth c A ls hx hb hr hml hown hts hlocks hin hA hK hZ hP hD hS hl
  have hts : ∀ w ∈ wG, w.before args s = true := fun w h => hts w (List.mem_cons_of_mem _ h)
  have hown : s.vm.findClass R_Tok = some m.cls := hown
  have hl : lv_has ls 2 [(0, .ref h), (1, .int x)] := hl
  refine lv_aload_n hx hb d_Tok_isIdle_0 rfl (lv_at hl 0 rfl) ?_
  refine lv_iload_n hx hb d_Tok_isIdle_1 rfl (lv_at hl 1 rfl) ?_
  obtain ⟨r1, hr1⟩ : ∃ r, (s_Tok_kindAt f_kinds x) = r := ⟨_, rfl⟩
  have hC_r1 := (c_Tok_kindAt l G h a_kinds a_values a_places f_kinds v_size x)
  rw [hr1] at hC_r1
  refine ly_callV (rest := []) (wf := [(h, .inr (7, [.ref a_kinds, .ref a_values, .ref a_places, .int v_size])), (a_kinds, .inl (gI G, 2001, .inl f_kinds)), (a_values, .inl (gI G, 2001, .inl f_values))]) ⟨hx, hb, hml, hown, hts⟩ hA hK hZ hP hD hS hC_r1 (cwV 1 hts g_Tok_86 rfl rfl rfl (by decide +kernel) ⟨Nat.le_of_ble_eq_true rfl, Nat.le_of_ble_eq_true rfl⟩) (ci := 7) (q0 := 0) rfl rfl rfl [0, 1] rfl (by decide) rfl rfl rfl hl.1 rfl (Nat.le_of_ble_eq_true rfl) d_Tok_isIdle_2 ⟨Nat.le_of_ble_eq_true rfl, Nat.le_of_ble_eq_true rfl⟩ (st1 := [.int r1]) (c1 := 0) (s1 := 0) rfl rfl rfl (fun H locs hP hD hS => ?_)
  refine lv_bipush (v := 11) hx hb d_Tok_isIdle_5 (by decide) ?_
  refine lv_icmp_ne (tgt := 25) hx hb d_Tok_isIdle_7 (by decide) (fun c1 => ?_) (fun c1 => ?_)
  · skip
    refine lv_iconst (v := 0) hx hb d_Tok_isIdle_25 (by decide) ?_
    exact ly_zret hx hb hr hlocks hP hD hS d_Tok_isIdle_26 (by decide) (by rw [s_Tok_isIdle] <;> simp only [hr1] <;> rw [if_neg c1]) rfl
  refine lv_aload_n hx hb d_Tok_isIdle_10 rfl (lv_at hl 0 rfl) ?_
  refine lv_iload_n hx hb d_Tok_isIdle_11 rfl (lv_at hl 1 rfl) ?_
  refine lv_iconst (v := 1) hx hb d_Tok_isIdle_12 (by decide) ?_
  refine lv_iadd hx hb d_Tok_isIdle_13 ?_
  obtain ⟨r2, hr2⟩ : ∃ r, (s_Tok_valueAt f_values (x + 1)) = r := ⟨_, rfl⟩
  have hC_r2 := (c_Tok_valueAt l G h a_kinds a_values a_places f_values v_size (x + 1))
  rw [hr2] at hC_r2
  refine ly_callV (rest := []) (wf := [(h, .inr (7, [.ref a_kinds, .ref a_values, .ref a_places, .int v_size])), (a_kinds, .inl (gI G, 2001, .inl f_kinds)), (a_values, .inl (gI G, 2001, .inl f_values))]) ⟨hx, hb, hml, hown, hts⟩ hA hK hZ hP hD hS hC_r2 (cwV 1 hts g_Tok_90 rfl rfl rfl (by decide +kernel) ⟨Nat.le_of_ble_eq_true rfl, Nat.le_of_ble_eq_true rfl⟩) (ci := 7) (q0 := 0) rfl rfl rfl [0, 2] rfl (by decide) rfl rfl rfl hl.1 rfl (Nat.le_of_ble_eq_true rfl) d_Tok_isIdle_14 ⟨Nat.le_of_ble_eq_true rfl, Nat.le_of_ble_eq_true rfl⟩ (st1 := [.int r2]) (c1 := 0) (s1 := 0) rfl rfl rfl (fun H locs hP hD hS => ?_)
  refine lv_iconst (v := 1) hx hb d_Tok_isIdle_17 (by decide) ?_
  refine lv_icmp_ne (tgt := 25) hx hb d_Tok_isIdle_18 (by decide) (fun c2 => ?_) (fun c2 => ?_)
  · skip
    refine lv_iconst (v := 0) hx hb d_Tok_isIdle_25 (by decide) ?_
    exact ly_zret hx hb hr hlocks hP hD hS d_Tok_isIdle_26 (by decide) (by rw [s_Tok_isIdle] <;> simp only [hr1, hr2] <;> rw [if_pos c1, if_neg c2]) rfl
  refine lv_iconst (v := 1) hx hb d_Tok_isIdle_21 (by decide) ?_
  refine lv_goto (tgt := 26) hx hb d_Tok_isIdle_22 (by decide) ?_
  exact ly_zret hx hb hr hlocks hP hD hS d_Tok_isIdle_26 (by decide) (by rw [s_Tok_isIdle] <;> simp only [hr1, hr2] <;> rw [if_pos c1, if_pos c2]) rfl
