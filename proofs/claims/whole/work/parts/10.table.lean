theorem d_Tab_size_0 : decode b_Tab_size 0 = .ok (.aload_n 0, 1) := by decide +kernel
theorem d_Tab_size_1 : decode b_Tab_size 1 = .ok (.getfield 13, 3) := by decide +kernel
theorem d_Tab_size_4 : decode b_Tab_size 4 = .ok (.ireturn, 1) := by decide +kernel
theorem d_Tab_add_0 : decode b_Tab_add 0 = .ok (.aload_n 0, 1) := by decide +kernel
theorem d_Tab_add_1 : decode b_Tab_add 1 = .ok (.getfield 13, 3) := by decide +kernel
theorem d_Tab_add_4 : decode b_Tab_add 4 = .ok (.bipush 6, 2) := by decide +kernel
theorem d_Tab_add_6 : decode b_Tab_add 6 = .ok (.imul, 1) := by decide +kernel
theorem d_Tab_add_7 : decode b_Tab_add 7 = .ok (.istore 7, 2) := by decide +kernel
theorem d_Tab_add_9 : decode b_Tab_add 9 = .ok (.iload 7, 2) := by decide +kernel
theorem d_Tab_add_11 : decode b_Tab_add 11 = .ok (.ifCond .lt 16, 3) := by decide +kernel
theorem d_Tab_add_14 : decode b_Tab_add 14 = .ok (.iload 7, 2) := by decide +kernel
theorem d_Tab_add_16 : decode b_Tab_add 16 = .ok (.aload_n 0, 1) := by decide +kernel
theorem d_Tab_add_17 : decode b_Tab_add 17 = .ok (.getfield 9, 3) := by decide +kernel
theorem d_Tab_add_20 : decode b_Tab_add 20 = .ok (.arraylength, 1) := by decide +kernel
theorem d_Tab_add_21 : decode b_Tab_add 21 = .ok (.bipush 6, 2) := by decide +kernel
theorem d_Tab_add_23 : decode b_Tab_add 23 = .ok (.isub, 1) := by decide +kernel
theorem d_Tab_add_24 : decode b_Tab_add 24 = .ok (.if_icmp .le 4, 3) := by decide +kernel
theorem d_Tab_add_27 : decode b_Tab_add 27 = .ok (.return_, 1) := by decide +kernel
theorem d_Tab_add_28 : decode b_Tab_add 28 = .ok (.aload_n 0, 1) := by decide +kernel
theorem d_Tab_add_29 : decode b_Tab_add 29 = .ok (.getfield 9, 3) := by decide +kernel
theorem d_Tab_add_32 : decode b_Tab_add 32 = .ok (.iload 7, 2) := by decide +kernel
theorem d_Tab_add_34 : decode b_Tab_add 34 = .ok (.iload_n 1, 1) := by decide +kernel
theorem d_Tab_add_35 : decode b_Tab_add 35 = .ok (.iastore, 1) := by decide +kernel
theorem d_Tab_add_36 : decode b_Tab_add 36 = .ok (.aload_n 0, 1) := by decide +kernel
theorem d_Tab_add_37 : decode b_Tab_add 37 = .ok (.getfield 9, 3) := by decide +kernel
theorem d_Tab_add_40 : decode b_Tab_add 40 = .ok (.iload 7, 2) := by decide +kernel
theorem d_Tab_add_42 : decode b_Tab_add 42 = .ok (.iconst 1, 1) := by decide +kernel
theorem d_Tab_add_43 : decode b_Tab_add 43 = .ok (.iadd, 1) := by decide +kernel
theorem d_Tab_add_44 : decode b_Tab_add 44 = .ok (.iload_n 2, 1) := by decide +kernel
theorem d_Tab_add_45 : decode b_Tab_add 45 = .ok (.iastore, 1) := by decide +kernel
theorem d_Tab_add_46 : decode b_Tab_add 46 = .ok (.aload_n 0, 1) := by decide +kernel
theorem d_Tab_add_47 : decode b_Tab_add 47 = .ok (.getfield 9, 3) := by decide +kernel
theorem d_Tab_add_50 : decode b_Tab_add 50 = .ok (.iload 7, 2) := by decide +kernel
theorem d_Tab_add_52 : decode b_Tab_add 52 = .ok (.iconst 2, 1) := by decide +kernel
theorem d_Tab_add_53 : decode b_Tab_add 53 = .ok (.iadd, 1) := by decide +kernel
theorem d_Tab_add_54 : decode b_Tab_add 54 = .ok (.iload_n 3, 1) := by decide +kernel
theorem d_Tab_add_55 : decode b_Tab_add 55 = .ok (.iastore, 1) := by decide +kernel
theorem d_Tab_add_56 : decode b_Tab_add 56 = .ok (.aload_n 0, 1) := by decide +kernel
theorem d_Tab_add_57 : decode b_Tab_add 57 = .ok (.getfield 9, 3) := by decide +kernel
theorem d_Tab_add_60 : decode b_Tab_add 60 = .ok (.iload 7, 2) := by decide +kernel
theorem d_Tab_add_62 : decode b_Tab_add 62 = .ok (.iconst 3, 1) := by decide +kernel
theorem d_Tab_add_63 : decode b_Tab_add 63 = .ok (.iadd, 1) := by decide +kernel
theorem d_Tab_add_64 : decode b_Tab_add 64 = .ok (.iload 4, 2) := by decide +kernel
theorem d_Tab_add_66 : decode b_Tab_add 66 = .ok (.iastore, 1) := by decide +kernel
theorem d_Tab_add_67 : decode b_Tab_add 67 = .ok (.aload_n 0, 1) := by decide +kernel
theorem d_Tab_add_68 : decode b_Tab_add 68 = .ok (.getfield 9, 3) := by decide +kernel
theorem d_Tab_add_71 : decode b_Tab_add 71 = .ok (.iload 7, 2) := by decide +kernel
theorem d_Tab_add_73 : decode b_Tab_add 73 = .ok (.iconst 4, 1) := by decide +kernel
theorem d_Tab_add_74 : decode b_Tab_add 74 = .ok (.iadd, 1) := by decide +kernel
theorem d_Tab_add_75 : decode b_Tab_add 75 = .ok (.iload 5, 2) := by decide +kernel
theorem d_Tab_add_77 : decode b_Tab_add 77 = .ok (.iastore, 1) := by decide +kernel
theorem d_Tab_add_78 : decode b_Tab_add 78 = .ok (.aload_n 0, 1) := by decide +kernel
theorem d_Tab_add_79 : decode b_Tab_add 79 = .ok (.getfield 9, 3) := by decide +kernel
theorem d_Tab_add_82 : decode b_Tab_add 82 = .ok (.iload 7, 2) := by decide +kernel
theorem d_Tab_add_84 : decode b_Tab_add 84 = .ok (.iconst 5, 1) := by decide +kernel
theorem d_Tab_add_85 : decode b_Tab_add 85 = .ok (.iadd, 1) := by decide +kernel
theorem d_Tab_add_86 : decode b_Tab_add 86 = .ok (.iload 6, 2) := by decide +kernel
theorem d_Tab_add_88 : decode b_Tab_add 88 = .ok (.iastore, 1) := by decide +kernel
theorem d_Tab_add_89 : decode b_Tab_add 89 = .ok (.aload_n 0, 1) := by decide +kernel
theorem d_Tab_add_90 : decode b_Tab_add 90 = .ok (.dup, 1) := by decide +kernel
theorem d_Tab_add_91 : decode b_Tab_add 91 = .ok (.getfield 13, 3) := by decide +kernel
theorem d_Tab_add_94 : decode b_Tab_add 94 = .ok (.iconst 1, 1) := by decide +kernel
theorem d_Tab_add_95 : decode b_Tab_add 95 = .ok (.iadd, 1) := by decide +kernel
theorem d_Tab_add_96 : decode b_Tab_add 96 = .ok (.putfield 13, 3) := by decide +kernel
theorem d_Tab_add_99 : decode b_Tab_add 99 = .ok (.return_, 1) := by decide +kernel
theorem d_Tab_at_0 : decode b_Tab_at 0 = .ok (.iload_n 1, 1) := by decide +kernel
theorem d_Tab_at_1 : decode b_Tab_at 1 = .ok (.bipush 6, 2) := by decide +kernel
theorem d_Tab_at_3 : decode b_Tab_at 3 = .ok (.imul, 1) := by decide +kernel
theorem d_Tab_at_4 : decode b_Tab_at 4 = .ok (.iload_n 2, 1) := by decide +kernel
theorem d_Tab_at_5 : decode b_Tab_at 5 = .ok (.iadd, 1) := by decide +kernel
theorem d_Tab_at_6 : decode b_Tab_at 6 = .ok (.istore_n 3, 1) := by decide +kernel
theorem d_Tab_at_7 : decode b_Tab_at 7 = .ok (.iload_n 3, 1) := by decide +kernel
theorem d_Tab_at_8 : decode b_Tab_at 8 = .ok (.ifCond .lt 21, 3) := by decide +kernel
theorem d_Tab_at_11 : decode b_Tab_at 11 = .ok (.iload_n 3, 1) := by decide +kernel
theorem d_Tab_at_12 : decode b_Tab_at 12 = .ok (.aload_n 0, 1) := by decide +kernel
theorem d_Tab_at_13 : decode b_Tab_at 13 = .ok (.getfield 9, 3) := by decide +kernel
theorem d_Tab_at_16 : decode b_Tab_at 16 = .ok (.arraylength, 1) := by decide +kernel
theorem d_Tab_at_17 : decode b_Tab_at 17 = .ok (.if_icmp .ge 12, 3) := by decide +kernel
theorem d_Tab_at_20 : decode b_Tab_at 20 = .ok (.aload_n 0, 1) := by decide +kernel
theorem d_Tab_at_21 : decode b_Tab_at 21 = .ok (.getfield 9, 3) := by decide +kernel
theorem d_Tab_at_24 : decode b_Tab_at 24 = .ok (.iload_n 3, 1) := by decide +kernel
theorem d_Tab_at_25 : decode b_Tab_at 25 = .ok (.iaload, 1) := by decide +kernel
theorem d_Tab_at_26 : decode b_Tab_at 26 = .ok (.goto 4, 3) := by decide +kernel
theorem d_Tab_at_29 : decode b_Tab_at 29 = .ok (.iconst 0, 1) := by decide +kernel
theorem d_Tab_at_30 : decode b_Tab_at 30 = .ok (.ireturn, 1) := by decide +kernel
theorem d_Tab_remove_0 : decode b_Tab_remove 0 = .ok (.iload_n 1, 1) := by decide +kernel
theorem d_Tab_remove_1 : decode b_Tab_remove 1 = .ok (.ifCond .lt 11, 3) := by decide +kernel
theorem d_Tab_remove_4 : decode b_Tab_remove 4 = .ok (.iload_n 1, 1) := by decide +kernel
theorem d_Tab_remove_5 : decode b_Tab_remove 5 = .ok (.aload_n 0, 1) := by decide +kernel
theorem d_Tab_remove_6 : decode b_Tab_remove 6 = .ok (.getfield 13, 3) := by decide +kernel
theorem d_Tab_remove_9 : decode b_Tab_remove 9 = .ok (.if_icmp .lt 4, 3) := by decide +kernel
theorem d_Tab_remove_12 : decode b_Tab_remove 12 = .ok (.return_, 1) := by decide +kernel
theorem d_Tab_remove_13 : decode b_Tab_remove 13 = .ok (.iload_n 1, 1) := by decide +kernel
theorem d_Tab_remove_14 : decode b_Tab_remove 14 = .ok (.iconst 1, 1) := by decide +kernel
theorem d_Tab_remove_15 : decode b_Tab_remove 15 = .ok (.iadd, 1) := by decide +kernel
theorem d_Tab_remove_16 : decode b_Tab_remove 16 = .ok (.bipush 6, 2) := by decide +kernel
theorem d_Tab_remove_18 : decode b_Tab_remove 18 = .ok (.imul, 1) := by decide +kernel
theorem d_Tab_remove_19 : decode b_Tab_remove 19 = .ok (.istore_n 2, 1) := by decide +kernel
theorem d_Tab_remove_20 : decode b_Tab_remove 20 = .ok (.aload_n 0, 1) := by decide +kernel
theorem d_Tab_remove_21 : decode b_Tab_remove 21 = .ok (.getfield 9, 3) := by decide +kernel
theorem d_Tab_remove_24 : decode b_Tab_remove 24 = .ok (.iload_n 2, 1) := by decide +kernel
theorem d_Tab_remove_25 : decode b_Tab_remove 25 = .ok (.aload_n 0, 1) := by decide +kernel
theorem d_Tab_remove_26 : decode b_Tab_remove 26 = .ok (.getfield 9, 3) := by decide +kernel
theorem d_Tab_remove_29 : decode b_Tab_remove 29 = .ok (.iload_n 1, 1) := by decide +kernel
theorem d_Tab_remove_30 : decode b_Tab_remove 30 = .ok (.bipush 6, 2) := by decide +kernel
theorem d_Tab_remove_32 : decode b_Tab_remove 32 = .ok (.imul, 1) := by decide +kernel
theorem d_Tab_remove_33 : decode b_Tab_remove 33 = .ok (.aload_n 0, 1) := by decide +kernel
theorem d_Tab_remove_34 : decode b_Tab_remove 34 = .ok (.getfield 13, 3) := by decide +kernel
theorem d_Tab_remove_37 : decode b_Tab_remove 37 = .ok (.bipush 6, 2) := by decide +kernel
theorem d_Tab_remove_39 : decode b_Tab_remove 39 = .ok (.imul, 1) := by decide +kernel
theorem d_Tab_remove_40 : decode b_Tab_remove 40 = .ok (.iload_n 2, 1) := by decide +kernel
theorem d_Tab_remove_41 : decode b_Tab_remove 41 = .ok (.isub, 1) := by decide +kernel
theorem d_Tab_remove_42 : decode b_Tab_remove 42 = .ok (.invokestatic 17, 3) := by decide +kernel
theorem d_Tab_remove_45 : decode b_Tab_remove 45 = .ok (.aload_n 0, 1) := by decide +kernel
theorem d_Tab_remove_46 : decode b_Tab_remove 46 = .ok (.dup, 1) := by decide +kernel
theorem d_Tab_remove_47 : decode b_Tab_remove 47 = .ok (.getfield 13, 3) := by decide +kernel
theorem d_Tab_remove_50 : decode b_Tab_remove 50 = .ok (.iconst 1, 1) := by decide +kernel
theorem d_Tab_remove_51 : decode b_Tab_remove 51 = .ok (.isub, 1) := by decide +kernel
theorem d_Tab_remove_52 : decode b_Tab_remove 52 = .ok (.putfield 13, 3) := by decide +kernel
theorem d_Tab_remove_55 : decode b_Tab_remove 55 = .ok (.return_, 1) := by decide +kernel
theorem k_0 : (.fieldLink R_Tab 13 "PrivateQueries$Table" "rows" "I" : Cond) ∈ wG := wGm 129 (by decide +kernel) (by decide +kernel)
theorem k_1 : (.fieldLink R_Tab 9 "PrivateQueries$Table" "numbers" "[I" : Cond) ∈ wG := wGm 128 (by decide +kernel) (by decide +kernel)
theorem k_2 : (.methodLink R_Tab 17 arraycopyName : Cond) ∈ wG := wGm 392 (by decide +kernel) (by decide +kernel)
theorem k_3 : (.native arraycopyName : Cond) ∈ wG := wGm 394 (by decide +kernel) (by decide +kernel)
theorem k_4 : (.static arraycopyName : Cond) ∈ wG := wGm 393 (by decide +kernel) (by decide +kernel)
theorem k_5 : (.initialized "java/lang/System" : Cond) ∈ wG := wGm 98 (by decide +kernel) (by decide +kernel)
set_option maxHeartbeats 4000000 in
set_option maxRecDepth 100000 in
theorem c_Tab_size (l : Launch) (G : GG) (h : Nat) (a_numbers : Nat) (v_rows : Int32) : Det l G y_Tab_size w_Tab_size (rmD 0) 0 0 [.ref h] [(h, .inr (1, [.ref a_numbers, .int v_rows]))] (some (.int v_rows)) [(h, .inr (1, [.ref a_numbers, .int v_rows]))] := by
  refine Det.of (cc := b_Tab_size) (maxL := 1) (ret := (some .int)) (by decide) rfl (Nat.le_of_ble_eq_true rfl) ?_
  intro p e s m args below meth c A ls hx hb hr hml hown hts hlocks hin hA hK hZ hP hD hS hl
  have hts : ∀ w ∈ wG, w.before args s = true := fun w h => hts w (List.mem_cons_of_mem _ h)
  have hown : s.vm.findClass R_Tab = some m.cls := hown
  have hl : lv_has ls 1 [(0, .ref h)] := hl
  refine lv_aload_n hx hb d_Tab_size_0 rfl (lv_at hl 0 rfl) ?_
  refine va_get (D := G.1) (ci := 1) (C := R_Tab) (T := F_Tab) (N := 2) (v := .int v_rows) hx hb hts i_Tab hown hK hP 0 rfl rfl 1 (by decide) (hts (.fieldLink R_Tab 13 "PrivateQueries$Table" "rows" "I") k_0) (fun _ h9 => h9) rfl d_Tab_size_1 ?_
  exact ly_iret hx hb hr hlocks hP hD hS d_Tab_size_4 rfl rfl

set_option maxHeartbeats 4000000 in
set_option maxRecDepth 100000 in
theorem c_Tab_add (l : Launch) (G : GG) (h : Nat) (a_numbers : Nat) (f_numbers : Nat → Int32) (v_rows : Int32) (x1 : Int32) (x2 : Int32) (x3 : Int32) (x4 : Int32) (x5 : Int32) (x6 : Int32) : Det l G y_Tab_add w_Tab_add (rmD 0) 0 0 [.ref h, .int x1, .int x2, .int x3, .int x4, .int x5, .int x6] [(h, .inr (1, [.ref a_numbers, .int v_rows])), (a_numbers, .inl (gI G, 360, .inl f_numbers))] none [(h, .inr (1, [.ref a_numbers, .int (s_Tab_add f_numbers v_rows x1 x2 x3 x4 x5 x6).1])), (a_numbers, .inl (gI G, 360, .inl (s_Tab_add f_numbers v_rows x1 x2 x3 x4 x5 x6).2))] := by
  refine Det.of (cc := b_Tab_add) (maxL := 8) (ret := none) (by decide) rfl (Nat.le_of_ble_eq_true rfl) ?_
  intro p e s m args below meth c A ls hx hb hr hml hown hts hlocks hin hA hK hZ hP hD hS hl
  have hts : ∀ w ∈ wG, w.before args s = true := fun w h => hts w (List.mem_cons_of_mem _ h)
  have hown : s.vm.findClass R_Tab = some m.cls := hown
  have hl : lv_has ls 8 [(0, .ref h), (1, .int x1), (2, .int x2), (3, .int x3), (4, .int x4), (5, .int x5), (6, .int x6)] := hl
  refine lv_aload_n hx hb d_Tab_add_0 rfl (lv_at hl 0 rfl) ?_
  refine va_get (D := G.1) (ci := 1) (C := R_Tab) (T := F_Tab) (N := 2) (v := .int v_rows) hx hb hts i_Tab hown hK hP 0 rfl rfl 1 (by decide) (hts (.fieldLink R_Tab 13 "PrivateQueries$Table" "rows" "I") k_0) (fun _ h9 => h9) rfl d_Tab_add_1 ?_
  refine lv_bipush (v := 6) hx hb d_Tab_add_4 (by decide) ?_
  refine lv_imul hx hb d_Tab_add_6 ?_
  refine lv_istore (lv' := [(7, .int (v_rows * 6)), (0, .ref h), (1, .int x1), (2, .int x2), (3, .int x3), (4, .int x4), (5, .int x5), (6, .int x6)]) hx hb d_Tab_add_7 hl (by decide) rfl (fun ls hl => ?_)
  refine lv_iload hx hb d_Tab_add_9 (lv_at hl 0 rfl) ?_
  refine lv_if_lt (tgt := 27) hx hb d_Tab_add_11 (by decide) (fun c1 => ?_) (fun c1 => ?_)
  · skip
    exact ly_vret hx hb hr hlocks hP hD hS d_Tab_add_27 rfl (by rw [s_Tab_add, if_pos c1])
  refine lv_iload hx hb d_Tab_add_14 (lv_at hl 0 rfl) ?_
  refine lv_aload_n hx hb d_Tab_add_16 rfl (lv_at hl 1 rfl) ?_
  refine va_get (D := G.1) (ci := 1) (C := R_Tab) (T := F_Tab) (N := 2) (v := .ref a_numbers) hx hb hts i_Tab hown hK hP 0 rfl rfl 0 (by decide) (hts (.fieldLink R_Tab 9 "PrivateQueries$Table" "numbers" "[I") k_1) (fun _ h9 => h9) rfl d_Tab_add_17 ?_
  refine va_alen (v := 360) hx hb hK hP 1 0 rfl rfl (show Int32.ofNat 360 = 360 by decide) d_Tab_add_20 ?_
  refine lv_bipush (v := 6) hx hb d_Tab_add_21 (by decide) ?_
  refine lv_isub hx hb d_Tab_add_23 ?_
  refine lv_icmp_le (tgt := 28) hx hb d_Tab_add_24 (by decide) (fun c2 => ?_) (fun c2 => ?_)
  · skip
    refine lv_aload_n hx hb d_Tab_add_28 rfl (lv_at hl 1 rfl) ?_
    refine va_get (D := G.1) (ci := 1) (C := R_Tab) (T := F_Tab) (N := 2) (v := .ref a_numbers) hx hb hts i_Tab hown hK hP 0 rfl rfl 0 (by decide) (hts (.fieldLink R_Tab 9 "PrivateQueries$Table" "numbers" "[I") k_1) (fun _ h9 => h9) rfl d_Tab_add_29 ?_
    refine lv_iload hx hb d_Tab_add_32 (lv_at hl 0 rfl) ?_
    refine lv_iload_n hx hb d_Tab_add_34 rfl (lv_at hl 2 rfl) ?_
    refine va_iast hx hb hK hP hD hS 1 0 rfl rfl (ly_inB (b := 354) c1 c2 (by decide) (by decide)) d_Tab_add_35 (fun H locs hP hD hS => ?_)
    have hP : va_P G.1 classes [(h, .inr (1, [.ref a_numbers, .int v_rows])), (a_numbers, .inl (gI G, 360, .inl (upd f_numbers (v_rows * 6).toNatClampNeg x1)))] H := hP
    have hD : va_D A [(h, .inr (1, [.ref a_numbers, .int v_rows])), (a_numbers, .inl (gI G, 360, .inl (upd f_numbers (v_rows * 6).toNatClampNeg x1)))] := hD
    refine lv_aload_n hx hb d_Tab_add_36 rfl (lv_at hl 1 rfl) ?_
    refine va_get (D := G.1) (ci := 1) (C := R_Tab) (T := F_Tab) (N := 2) (v := .ref a_numbers) hx hb hts i_Tab hown hK hP 0 rfl rfl 0 (by decide) (hts (.fieldLink R_Tab 9 "PrivateQueries$Table" "numbers" "[I") k_1) (fun _ h9 => h9) rfl d_Tab_add_37 ?_
    refine lv_iload hx hb d_Tab_add_40 (lv_at hl 0 rfl) ?_
    refine lv_iconst (v := 1) hx hb d_Tab_add_42 (by decide) ?_
    refine lv_iadd hx hb d_Tab_add_43 ?_
    refine lv_iload_n hx hb d_Tab_add_44 rfl (lv_at hl 3 rfl) ?_
    refine va_iast hx hb hK hP hD hS 1 0 rfl rfl (ly_inA (b := 354) c1 c2 (by decide) (by decide : ((1 : Int32)).toInt = ((1 : Nat) : Int)) (by decide) (by decide)) d_Tab_add_45 (fun H locs hP hD hS => ?_)
    have hP : va_P G.1 classes [(h, .inr (1, [.ref a_numbers, .int v_rows])), (a_numbers, .inl (gI G, 360, .inl (upd (upd f_numbers (v_rows * 6).toNatClampNeg x1) ((v_rows * 6) + 1).toNatClampNeg x2)))] H := hP
    have hD : va_D A [(h, .inr (1, [.ref a_numbers, .int v_rows])), (a_numbers, .inl (gI G, 360, .inl (upd (upd f_numbers (v_rows * 6).toNatClampNeg x1) ((v_rows * 6) + 1).toNatClampNeg x2)))] := hD
    refine lv_aload_n hx hb d_Tab_add_46 rfl (lv_at hl 1 rfl) ?_
    refine va_get (D := G.1) (ci := 1) (C := R_Tab) (T := F_Tab) (N := 2) (v := .ref a_numbers) hx hb hts i_Tab hown hK hP 0 rfl rfl 0 (by decide) (hts (.fieldLink R_Tab 9 "PrivateQueries$Table" "numbers" "[I") k_1) (fun _ h9 => h9) rfl d_Tab_add_47 ?_
    refine lv_iload hx hb d_Tab_add_50 (lv_at hl 0 rfl) ?_
    refine lv_iconst (v := 2) hx hb d_Tab_add_52 (by decide) ?_
    refine lv_iadd hx hb d_Tab_add_53 ?_
    refine lv_iload_n hx hb d_Tab_add_54 rfl (lv_at hl 4 rfl) ?_
    refine va_iast hx hb hK hP hD hS 1 0 rfl rfl (ly_inA (b := 354) c1 c2 (by decide) (by decide : ((2 : Int32)).toInt = ((2 : Nat) : Int)) (by decide) (by decide)) d_Tab_add_55 (fun H locs hP hD hS => ?_)
    have hP : va_P G.1 classes [(h, .inr (1, [.ref a_numbers, .int v_rows])), (a_numbers, .inl (gI G, 360, .inl (upd (upd (upd f_numbers (v_rows * 6).toNatClampNeg x1) ((v_rows * 6) + 1).toNatClampNeg x2) ((v_rows * 6) + 2).toNatClampNeg x3)))] H := hP
    have hD : va_D A [(h, .inr (1, [.ref a_numbers, .int v_rows])), (a_numbers, .inl (gI G, 360, .inl (upd (upd (upd f_numbers (v_rows * 6).toNatClampNeg x1) ((v_rows * 6) + 1).toNatClampNeg x2) ((v_rows * 6) + 2).toNatClampNeg x3)))] := hD
    refine lv_aload_n hx hb d_Tab_add_56 rfl (lv_at hl 1 rfl) ?_
    refine va_get (D := G.1) (ci := 1) (C := R_Tab) (T := F_Tab) (N := 2) (v := .ref a_numbers) hx hb hts i_Tab hown hK hP 0 rfl rfl 0 (by decide) (hts (.fieldLink R_Tab 9 "PrivateQueries$Table" "numbers" "[I") k_1) (fun _ h9 => h9) rfl d_Tab_add_57 ?_
    refine lv_iload hx hb d_Tab_add_60 (lv_at hl 0 rfl) ?_
    refine lv_iconst (v := 3) hx hb d_Tab_add_62 (by decide) ?_
    refine lv_iadd hx hb d_Tab_add_63 ?_
    refine lv_iload hx hb d_Tab_add_64 (lv_at hl 5 rfl) ?_
    refine va_iast hx hb hK hP hD hS 1 0 rfl rfl (ly_inA (b := 354) c1 c2 (by decide) (by decide : ((3 : Int32)).toInt = ((3 : Nat) : Int)) (by decide) (by decide)) d_Tab_add_66 (fun H locs hP hD hS => ?_)
    have hP : va_P G.1 classes [(h, .inr (1, [.ref a_numbers, .int v_rows])), (a_numbers, .inl (gI G, 360, .inl (upd (upd (upd (upd f_numbers (v_rows * 6).toNatClampNeg x1) ((v_rows * 6) + 1).toNatClampNeg x2) ((v_rows * 6) + 2).toNatClampNeg x3) ((v_rows * 6) + 3).toNatClampNeg x4)))] H := hP
    have hD : va_D A [(h, .inr (1, [.ref a_numbers, .int v_rows])), (a_numbers, .inl (gI G, 360, .inl (upd (upd (upd (upd f_numbers (v_rows * 6).toNatClampNeg x1) ((v_rows * 6) + 1).toNatClampNeg x2) ((v_rows * 6) + 2).toNatClampNeg x3) ((v_rows * 6) + 3).toNatClampNeg x4)))] := hD
    refine lv_aload_n hx hb d_Tab_add_67 rfl (lv_at hl 1 rfl) ?_
    refine va_get (D := G.1) (ci := 1) (C := R_Tab) (T := F_Tab) (N := 2) (v := .ref a_numbers) hx hb hts i_Tab hown hK hP 0 rfl rfl 0 (by decide) (hts (.fieldLink R_Tab 9 "PrivateQueries$Table" "numbers" "[I") k_1) (fun _ h9 => h9) rfl d_Tab_add_68 ?_
    refine lv_iload hx hb d_Tab_add_71 (lv_at hl 0 rfl) ?_
    refine lv_iconst (v := 4) hx hb d_Tab_add_73 (by decide) ?_
    refine lv_iadd hx hb d_Tab_add_74 ?_
    refine lv_iload hx hb d_Tab_add_75 (lv_at hl 6 rfl) ?_
    refine va_iast hx hb hK hP hD hS 1 0 rfl rfl (ly_inA (b := 354) c1 c2 (by decide) (by decide : ((4 : Int32)).toInt = ((4 : Nat) : Int)) (by decide) (by decide)) d_Tab_add_77 (fun H locs hP hD hS => ?_)
    have hP : va_P G.1 classes [(h, .inr (1, [.ref a_numbers, .int v_rows])), (a_numbers, .inl (gI G, 360, .inl (upd (upd (upd (upd (upd f_numbers (v_rows * 6).toNatClampNeg x1) ((v_rows * 6) + 1).toNatClampNeg x2) ((v_rows * 6) + 2).toNatClampNeg x3) ((v_rows * 6) + 3).toNatClampNeg x4) ((v_rows * 6) + 4).toNatClampNeg x5)))] H := hP
    have hD : va_D A [(h, .inr (1, [.ref a_numbers, .int v_rows])), (a_numbers, .inl (gI G, 360, .inl (upd (upd (upd (upd (upd f_numbers (v_rows * 6).toNatClampNeg x1) ((v_rows * 6) + 1).toNatClampNeg x2) ((v_rows * 6) + 2).toNatClampNeg x3) ((v_rows * 6) + 3).toNatClampNeg x4) ((v_rows * 6) + 4).toNatClampNeg x5)))] := hD
    refine lv_aload_n hx hb d_Tab_add_78 rfl (lv_at hl 1 rfl) ?_
    refine va_get (D := G.1) (ci := 1) (C := R_Tab) (T := F_Tab) (N := 2) (v := .ref a_numbers) hx hb hts i_Tab hown hK hP 0 rfl rfl 0 (by decide) (hts (.fieldLink R_Tab 9 "PrivateQueries$Table" "numbers" "[I") k_1) (fun _ h9 => h9) rfl d_Tab_add_79 ?_
    refine lv_iload hx hb d_Tab_add_82 (lv_at hl 0 rfl) ?_
    refine lv_iconst (v := 5) hx hb d_Tab_add_84 (by decide) ?_
    refine lv_iadd hx hb d_Tab_add_85 ?_
    refine lv_iload hx hb d_Tab_add_86 (lv_at hl 7 rfl) ?_
    refine va_iast hx hb hK hP hD hS 1 0 rfl rfl (ly_inA (b := 354) c1 c2 (by decide) (by decide : ((5 : Int32)).toInt = ((5 : Nat) : Int)) (by decide) (by decide)) d_Tab_add_88 (fun H locs hP hD hS => ?_)
    have hP : va_P G.1 classes [(h, .inr (1, [.ref a_numbers, .int v_rows])), (a_numbers, .inl (gI G, 360, .inl (upd (upd (upd (upd (upd (upd f_numbers (v_rows * 6).toNatClampNeg x1) ((v_rows * 6) + 1).toNatClampNeg x2) ((v_rows * 6) + 2).toNatClampNeg x3) ((v_rows * 6) + 3).toNatClampNeg x4) ((v_rows * 6) + 4).toNatClampNeg x5) ((v_rows * 6) + 5).toNatClampNeg x6)))] H := hP
    have hD : va_D A [(h, .inr (1, [.ref a_numbers, .int v_rows])), (a_numbers, .inl (gI G, 360, .inl (upd (upd (upd (upd (upd (upd f_numbers (v_rows * 6).toNatClampNeg x1) ((v_rows * 6) + 1).toNatClampNeg x2) ((v_rows * 6) + 2).toNatClampNeg x3) ((v_rows * 6) + 3).toNatClampNeg x4) ((v_rows * 6) + 4).toNatClampNeg x5) ((v_rows * 6) + 5).toNatClampNeg x6)))] := hD
    refine lv_aload_n hx hb d_Tab_add_89 rfl (lv_at hl 1 rfl) ?_
    refine lv_dup hx hb d_Tab_add_90 rfl ?_
    refine va_get (D := G.1) (ci := 1) (C := R_Tab) (T := F_Tab) (N := 2) (v := .int v_rows) hx hb hts i_Tab hown hK hP 0 rfl rfl 1 (by decide) (hts (.fieldLink R_Tab 13 "PrivateQueries$Table" "rows" "I") k_0) (fun _ h9 => h9) rfl d_Tab_add_91 ?_
    refine lv_iconst (v := 1) hx hb d_Tab_add_94 (by decide) ?_
    refine lv_iadd hx hb d_Tab_add_95 ?_
    refine va_put (D := G.1) (ci := 1) (v := .int (v_rows + 1)) (ty := .int) (C := R_Tab) (T := F_Tab) (N := 2) hx hb hts i_Tab t_Tab t_Tab_ok n_Tab hown hK hP hD hS 0 rfl rfl 1 (by decide) (hts (.fieldLink R_Tab 13 "PrivateQueries$Table" "rows" "I") k_0) (fun _ h9 => h9) rfl (by decide +kernel) rfl rfl (Nat.le_of_ble_eq_true rfl) d_Tab_add_96 (fun H locs hP hD hS => ?_)
    have hP : va_P G.1 classes [(h, .inr (1, [.ref a_numbers, .int (v_rows + 1)])), (a_numbers, .inl (gI G, 360, .inl (upd (upd (upd (upd (upd (upd f_numbers (v_rows * 6).toNatClampNeg x1) ((v_rows * 6) + 1).toNatClampNeg x2) ((v_rows * 6) + 2).toNatClampNeg x3) ((v_rows * 6) + 3).toNatClampNeg x4) ((v_rows * 6) + 4).toNatClampNeg x5) ((v_rows * 6) + 5).toNatClampNeg x6)))] H := hP
    have hD : va_D A [(h, .inr (1, [.ref a_numbers, .int (v_rows + 1)])), (a_numbers, .inl (gI G, 360, .inl (upd (upd (upd (upd (upd (upd f_numbers (v_rows * 6).toNatClampNeg x1) ((v_rows * 6) + 1).toNatClampNeg x2) ((v_rows * 6) + 2).toNatClampNeg x3) ((v_rows * 6) + 3).toNatClampNeg x4) ((v_rows * 6) + 4).toNatClampNeg x5) ((v_rows * 6) + 5).toNatClampNeg x6)))] := hD
    exact ly_vret hx hb hr hlocks hP hD hS d_Tab_add_99 rfl (by rw [s_Tab_add, if_neg c1, if_pos c2])
  exact ly_vret hx hb hr hlocks hP hD hS d_Tab_add_27 rfl (by rw [s_Tab_add, if_neg c1, if_neg c2])

set_option maxHeartbeats 4000000 in
set_option maxRecDepth 100000 in
theorem c_Tab_at (l : Launch) (G : GG) (h : Nat) (a_numbers : Nat) (f_numbers : Nat → Int32) (v_rows : Int32) (row : Int32) (col : Int32) : Det l G y_Tab_at w_Tab_at (rmD 0) 0 0 [.ref h, .int row, .int col] [(h, .inr (1, [.ref a_numbers, .int v_rows])), (a_numbers, .inl (gI G, 360, .inl f_numbers))] (some (.int (s_Tab_at f_numbers row col))) [(h, .inr (1, [.ref a_numbers, .int v_rows])), (a_numbers, .inl (gI G, 360, .inl f_numbers))] := by
  refine Det.of (cc := b_Tab_at) (maxL := 4) (ret := (some .int)) (by decide) rfl (Nat.le_of_ble_eq_true rfl) ?_
  intro p e s m args below meth c A ls hx hb hr hml hown hts hlocks hin hA hK hZ hP hD hS hl
  have hts : ∀ w ∈ wG, w.before args s = true := fun w h => hts w (List.mem_cons_of_mem _ h)
  have hown : s.vm.findClass R_Tab = some m.cls := hown
  have hl : lv_has ls 4 [(0, .ref h), (1, .int row), (2, .int col)] := hl
  refine lv_iload_n hx hb d_Tab_at_0 rfl (lv_at hl 1 rfl) ?_
  refine lv_bipush (v := 6) hx hb d_Tab_at_1 (by decide) ?_
  refine lv_imul hx hb d_Tab_at_3 ?_
  refine lv_iload_n hx hb d_Tab_at_4 rfl (lv_at hl 2 rfl) ?_
  refine lv_iadd hx hb d_Tab_at_5 ?_
  refine lv_istore_n (lv' := [(3, .int ((row * 6) + col)), (0, .ref h), (1, .int row), (2, .int col)]) hx hb d_Tab_at_6 rfl hl (by decide) rfl (fun ls hl => ?_)
  refine lv_iload_n hx hb d_Tab_at_7 rfl (lv_at hl 0 rfl) ?_
  refine lv_if_lt (tgt := 29) hx hb d_Tab_at_8 (by decide) (fun c1 => ?_) (fun c1 => ?_)
  · skip
    refine lv_iconst (v := 0) hx hb d_Tab_at_29 (by decide) ?_
    exact ly_iret hx hb hr hlocks hP hD hS d_Tab_at_30 (by rw [s_Tab_at, if_pos c1]) rfl
  refine lv_iload_n hx hb d_Tab_at_11 rfl (lv_at hl 0 rfl) ?_
  refine lv_aload_n hx hb d_Tab_at_12 rfl (lv_at hl 1 rfl) ?_
  refine va_get (D := G.1) (ci := 1) (C := R_Tab) (T := F_Tab) (N := 2) (v := .ref a_numbers) hx hb hts i_Tab hown hK hP 0 rfl rfl 0 (by decide) (hts (.fieldLink R_Tab 9 "PrivateQueries$Table" "numbers" "[I") k_1) (fun _ h9 => h9) rfl d_Tab_at_13 ?_
  refine va_alen (v := 360) hx hb hK hP 1 0 rfl rfl (show Int32.ofNat 360 = 360 by decide) d_Tab_at_16 ?_
  refine lv_icmp_ge (tgt := 29) hx hb d_Tab_at_17 (by decide) (fun c2 => ?_) (fun c2 => ?_)
  · skip
    refine lv_iconst (v := 0) hx hb d_Tab_at_29 (by decide) ?_
    exact ly_iret hx hb hr hlocks hP hD hS d_Tab_at_30 (by rw [s_Tab_at, if_neg c1, if_pos c2]) rfl
  refine lv_aload_n hx hb d_Tab_at_20 rfl (lv_at hl 1 rfl) ?_
  refine va_get (D := G.1) (ci := 1) (C := R_Tab) (T := F_Tab) (N := 2) (v := .ref a_numbers) hx hb hts i_Tab hown hK hP 0 rfl rfl 0 (by decide) (hts (.fieldLink R_Tab 9 "PrivateQueries$Table" "numbers" "[I") k_1) (fun _ h9 => h9) rfl d_Tab_at_21 ?_
  refine lv_iload_n hx hb d_Tab_at_24 rfl (lv_at hl 0 rfl) ?_
  refine va_iald hx hb hK hP 1 0 rfl rfl (ly_mk (ly_lo c1) (ly_hi (by decide) c2)) d_Tab_at_25 ?_
  refine lv_goto (tgt := 30) hx hb d_Tab_at_26 (by decide) ?_
  exact ly_iret hx hb hr hlocks hP hD hS d_Tab_at_30 (by rw [s_Tab_at, if_neg c1, if_neg c2]) rfl

set_option maxHeartbeats 4000000 in
set_option maxRecDepth 100000 in
theorem c_Tab_remove (l : Launch) (G : GG) (h : Nat) (a_numbers : Nat) (f_numbers : Nat → Int32) (v_rows : Int32) (row : Int32) (hz_v_rows : up v_rows 60) : Det l G y_Tab_remove w_Tab_remove (rmD 1) 0 0 [.ref h, .int row] [(h, .inr (1, [.ref a_numbers, .int v_rows])), (a_numbers, .inl (gI G, 360, .inl f_numbers))] none [(h, .inr (1, [.ref a_numbers, .int (s_Tab_remove f_numbers v_rows row).1])), (a_numbers, .inl (gI G, 360, .inl (s_Tab_remove f_numbers v_rows row).2))] := by
  refine Det.of (cc := b_Tab_remove) (maxL := 3) (ret := none) (by decide) rfl (Nat.le_of_ble_eq_true rfl) ?_
  intro p e s m args below meth c A ls hx hb hr hml hown hts hlocks hin hA hK hZ hP hD hS hl
  have hts : ∀ w ∈ wG, w.before args s = true := fun w h => hts w (List.mem_cons_of_mem _ h)
  have hown : s.vm.findClass R_Tab = some m.cls := hown
  have hl : lv_has ls 3 [(0, .ref h), (1, .int row)] := hl
  refine lv_iload_n hx hb d_Tab_remove_0 rfl (lv_at hl 1 rfl) ?_
  refine lv_if_lt (tgt := 12) hx hb d_Tab_remove_1 (by decide) (fun c1 => ?_) (fun c1 => ?_)
  · skip
    exact ly_vret hx hb hr hlocks hP hD hS d_Tab_remove_12 rfl (by rw [s_Tab_remove, if_pos c1])
  refine lv_iload_n hx hb d_Tab_remove_4 rfl (lv_at hl 1 rfl) ?_
  refine lv_aload_n hx hb d_Tab_remove_5 rfl (lv_at hl 0 rfl) ?_
  refine va_get (D := G.1) (ci := 1) (C := R_Tab) (T := F_Tab) (N := 2) (v := .int v_rows) hx hb hts i_Tab hown hK hP 0 rfl rfl 1 (by decide) (hts (.fieldLink R_Tab 13 "PrivateQueries$Table" "rows" "I") k_0) (fun _ h9 => h9) rfl d_Tab_remove_6 ?_
  refine lv_icmp_lt (tgt := 13) hx hb d_Tab_remove_9 (by decide) (fun c2 => ?_) (fun c2 => ?_)
  · skip
    refine lv_iload_n hx hb d_Tab_remove_13 rfl (lv_at hl 1 rfl) ?_
    refine lv_iconst (v := 1) hx hb d_Tab_remove_14 (by decide) ?_
    refine lv_iadd hx hb d_Tab_remove_15 ?_
    refine lv_bipush (v := 6) hx hb d_Tab_remove_16 (by decide) ?_
    refine lv_imul hx hb d_Tab_remove_18 ?_
    refine lv_istore_n (lv' := [(2, .int ((row + 1) * 6)), (0, .ref h), (1, .int row)]) hx hb d_Tab_remove_19 rfl hl (by decide) rfl (fun ls hl => ?_)
    refine lv_aload_n hx hb d_Tab_remove_20 rfl (lv_at hl 1 rfl) ?_
    refine va_get (D := G.1) (ci := 1) (C := R_Tab) (T := F_Tab) (N := 2) (v := .ref a_numbers) hx hb hts i_Tab hown hK hP 0 rfl rfl 0 (by decide) (hts (.fieldLink R_Tab 9 "PrivateQueries$Table" "numbers" "[I") k_1) (fun _ h9 => h9) rfl d_Tab_remove_21 ?_
    refine lv_iload_n hx hb d_Tab_remove_24 rfl (lv_at hl 0 rfl) ?_
    refine lv_aload_n hx hb d_Tab_remove_25 rfl (lv_at hl 1 rfl) ?_
    refine va_get (D := G.1) (ci := 1) (C := R_Tab) (T := F_Tab) (N := 2) (v := .ref a_numbers) hx hb hts i_Tab hown hK hP 0 rfl rfl 0 (by decide) (hts (.fieldLink R_Tab 9 "PrivateQueries$Table" "numbers" "[I") k_1) (fun _ h9 => h9) rfl d_Tab_remove_26 ?_
    refine lv_iload_n hx hb d_Tab_remove_29 rfl (lv_at hl 2 rfl) ?_
    refine lv_bipush (v := 6) hx hb d_Tab_remove_30 (by decide) ?_
    refine lv_imul hx hb d_Tab_remove_32 ?_
    refine lv_aload_n hx hb d_Tab_remove_33 rfl (lv_at hl 1 rfl) ?_
    refine va_get (D := G.1) (ci := 1) (C := R_Tab) (T := F_Tab) (N := 2) (v := .int v_rows) hx hb hts i_Tab hown hK hP 0 rfl rfl 1 (by decide) (hts (.fieldLink R_Tab 13 "PrivateQueries$Table" "rows" "I") k_0) (fun _ h9 => h9) rfl d_Tab_remove_34 ?_
    refine lv_bipush (v := 6) hx hb d_Tab_remove_37 (by decide) ?_
    refine lv_imul hx hb d_Tab_remove_39 ?_
    refine lv_iload_n hx hb d_Tab_remove_40 rfl (lv_at hl 0 rfl) ?_
    refine lv_isub hx hb d_Tab_remove_41 ?_
    refine va_copyi (ty := .int) hx hb (hml.trans hl.1.symm) hown (hts (.methodLink R_Tab 17 arraycopyName) k_2) (hts (.native arraycopyName) k_3) (hts (.static arraycopyName) k_4) (hts (.initialized "java/lang/System") k_5) hK hP hD hS 1 1 0 0 rfl rfl rfl rfl rfl (t_rm1 hz_v_rows c1 c2) (t_rm2 hz_v_rows c1 c2) (t_rm3 hz_v_rows c1 c2) (t_rm4 hz_v_rows c1 c2) (t_rm5 hz_v_rows c1 c2) (fun _ _ => rfl) (Nat.le_of_ble_eq_true rfl) (Nat.le_of_ble_eq_true rfl) d_Tab_remove_42 (fun H locs hP hD hS => ?_)
    have hP : va_P G.1 classes [(h, .inr (1, [.ref a_numbers, .int v_rows])), (a_numbers, .inl (gI G, 360, .inl (va_cpy f_numbers f_numbers ((row + 1) * 6).toNatClampNeg (row * 6).toNatClampNeg ((v_rows * 6) - ((row + 1) * 6)).toNatClampNeg)))] H := hP
    have hD : va_D A [(h, .inr (1, [.ref a_numbers, .int v_rows])), (a_numbers, .inl (gI G, 360, .inl (va_cpy f_numbers f_numbers ((row + 1) * 6).toNatClampNeg (row * 6).toNatClampNeg ((v_rows * 6) - ((row + 1) * 6)).toNatClampNeg)))] := hD
    refine lv_aload_n hx hb d_Tab_remove_45 rfl (lv_at hl 1 rfl) ?_
    refine lv_dup hx hb d_Tab_remove_46 rfl ?_
    refine va_get (D := G.1) (ci := 1) (C := R_Tab) (T := F_Tab) (N := 2) (v := .int v_rows) hx hb hts i_Tab hown hK hP 0 rfl rfl 1 (by decide) (hts (.fieldLink R_Tab 13 "PrivateQueries$Table" "rows" "I") k_0) (fun _ h9 => h9) rfl d_Tab_remove_47 ?_
    refine lv_iconst (v := 1) hx hb d_Tab_remove_50 (by decide) ?_
    refine lv_isub hx hb d_Tab_remove_51 ?_
    refine va_put (D := G.1) (ci := 1) (v := .int (v_rows - 1)) (ty := .int) (C := R_Tab) (T := F_Tab) (N := 2) hx hb hts i_Tab t_Tab t_Tab_ok n_Tab hown hK hP hD hS 0 rfl rfl 1 (by decide) (hts (.fieldLink R_Tab 13 "PrivateQueries$Table" "rows" "I") k_0) (fun _ h9 => h9) rfl (by decide +kernel) rfl rfl (Nat.le_of_ble_eq_true rfl) d_Tab_remove_52 (fun H locs hP hD hS => ?_)
    have hP : va_P G.1 classes [(h, .inr (1, [.ref a_numbers, .int (v_rows - 1)])), (a_numbers, .inl (gI G, 360, .inl (va_cpy f_numbers f_numbers ((row + 1) * 6).toNatClampNeg (row * 6).toNatClampNeg ((v_rows * 6) - ((row + 1) * 6)).toNatClampNeg)))] H := hP
    have hD : va_D A [(h, .inr (1, [.ref a_numbers, .int (v_rows - 1)])), (a_numbers, .inl (gI G, 360, .inl (va_cpy f_numbers f_numbers ((row + 1) * 6).toNatClampNeg (row * 6).toNatClampNeg ((v_rows * 6) - ((row + 1) * 6)).toNatClampNeg)))] := hD
    exact ly_vret hx hb hr hlocks hP hD hS d_Tab_remove_55 rfl (by rw [s_Tab_remove, if_neg c1, if_pos c2])
  exact ly_vret hx hb hr hlocks hP hD hS d_Tab_remove_12 rfl (by rw [s_Tab_remove, if_neg c1, if_neg c2])
