theorem d_Qu_begin_0 : decode b_Qu_begin 0 = .ok (.aload_n 0, 1) := by decide +kernel
theorem d_Qu_begin_1 : decode b_Qu_begin 1 = .ok (.iload_n 1, 1) := by decide +kernel
theorem d_Qu_begin_2 : decode b_Qu_begin 2 = .ok (.putfield 15, 3) := by decide +kernel
theorem d_Qu_begin_5 : decode b_Qu_begin 5 = .ok (.aload_n 0, 1) := by decide +kernel
theorem d_Qu_begin_6 : decode b_Qu_begin 6 = .ok (.iconst 0, 1) := by decide +kernel
theorem d_Qu_begin_7 : decode b_Qu_begin 7 = .ok (.putfield 18, 3) := by decide +kernel
theorem d_Qu_begin_10 : decode b_Qu_begin 10 = .ok (.aload_n 0, 1) := by decide +kernel
theorem d_Qu_begin_11 : decode b_Qu_begin 11 = .ok (.iconst 0, 1) := by decide +kernel
theorem d_Qu_begin_12 : decode b_Qu_begin 12 = .ok (.putfield 21, 3) := by decide +kernel
theorem d_Qu_begin_15 : decode b_Qu_begin 15 = .ok (.aload_n 0, 1) := by decide +kernel
theorem d_Qu_begin_16 : decode b_Qu_begin 16 = .ok (.iconst 0, 1) := by decide +kernel
theorem d_Qu_begin_17 : decode b_Qu_begin 17 = .ok (.putfield 24, 3) := by decide +kernel
theorem d_Qu_begin_20 : decode b_Qu_begin 20 = .ok (.aload_n 0, 1) := by decide +kernel
theorem d_Qu_begin_21 : decode b_Qu_begin 21 = .ok (.iconst 1, 1) := by decide +kernel
theorem d_Qu_begin_22 : decode b_Qu_begin 22 = .ok (.putfield 9, 3) := by decide +kernel
theorem d_Qu_begin_25 : decode b_Qu_begin 25 = .ok (.aload_n 0, 1) := by decide +kernel
theorem d_Qu_begin_26 : decode b_Qu_begin 26 = .ok (.iconst 0, 1) := by decide +kernel
theorem d_Qu_begin_27 : decode b_Qu_begin 27 = .ok (.putfield 27, 3) := by decide +kernel
theorem d_Qu_begin_30 : decode b_Qu_begin 30 = .ok (.aload_n 0, 1) := by decide +kernel
theorem d_Qu_begin_31 : decode b_Qu_begin 31 = .ok (.iconst 0, 1) := by decide +kernel
theorem d_Qu_begin_32 : decode b_Qu_begin 32 = .ok (.putfield 30, 3) := by decide +kernel
theorem d_Qu_begin_35 : decode b_Qu_begin 35 = .ok (.aload_n 0, 1) := by decide +kernel
theorem d_Qu_begin_36 : decode b_Qu_begin 36 = .ok (.iconst 0, 1) := by decide +kernel
theorem d_Qu_begin_37 : decode b_Qu_begin 37 = .ok (.putfield 33, 3) := by decide +kernel
theorem d_Qu_begin_40 : decode b_Qu_begin 40 = .ok (.return_, 1) := by decide +kernel
theorem d_Qu_numbers_0 : decode b_Qu_numbers 0 = .ok (.aload_n 0, 1) := by decide +kernel
theorem d_Qu_numbers_1 : decode b_Qu_numbers 1 = .ok (.getfield 15, 3) := by decide +kernel
theorem d_Qu_numbers_4 : decode b_Qu_numbers 4 = .ok (.iconst 2, 1) := by decide +kernel
theorem d_Qu_numbers_5 : decode b_Qu_numbers 5 = .ok (.if_icmp .ne 17, 3) := by decide +kernel
theorem d_Qu_numbers_8 : decode b_Qu_numbers 8 = .ok (.aload_n 0, 1) := by decide +kernel
theorem d_Qu_numbers_9 : decode b_Qu_numbers 9 = .ok (.getfield 24, 3) := by decide +kernel
theorem d_Qu_numbers_12 : decode b_Qu_numbers 12 = .ok (.aload_n 0, 1) := by decide +kernel
theorem d_Qu_numbers_13 : decode b_Qu_numbers 13 = .ok (.getfield 21, 3) := by decide +kernel
theorem d_Qu_numbers_16 : decode b_Qu_numbers 16 = .ok (.isub, 1) := by decide +kernel
theorem d_Qu_numbers_17 : decode b_Qu_numbers 17 = .ok (.iconst 1, 1) := by decide +kernel
theorem d_Qu_numbers_18 : decode b_Qu_numbers 18 = .ok (.iadd, 1) := by decide +kernel
theorem d_Qu_numbers_19 : decode b_Qu_numbers 19 = .ok (.goto 4, 3) := by decide +kernel
theorem d_Qu_numbers_22 : decode b_Qu_numbers 22 = .ok (.iconst 1, 1) := by decide +kernel
theorem d_Qu_numbers_23 : decode b_Qu_numbers 23 = .ok (.ireturn, 1) := by decide +kernel
theorem d_Qu_units_0 : decode b_Qu_units 0 = .ok (.aload_n 0, 1) := by decide +kernel
theorem d_Qu_units_1 : decode b_Qu_units 1 = .ok (.getfield 9, 3) := by decide +kernel
theorem d_Qu_units_4 : decode b_Qu_units 4 = .ok (.iconst 1, 1) := by decide +kernel
theorem d_Qu_units_5 : decode b_Qu_units 5 = .ok (.invokestatic 43, 3) := by decide +kernel
theorem d_Qu_units_8 : decode b_Qu_units 8 = .ok (.istore_n 1, 1) := by decide +kernel
theorem d_Qu_units_9 : decode b_Qu_units 9 = .ok (.aload_n 0, 1) := by decide +kernel
theorem d_Qu_units_10 : decode b_Qu_units 10 = .ok (.getfield 15, 3) := by decide +kernel
theorem d_Qu_units_13 : decode b_Qu_units 13 = .ok (.iconst 1, 1) := by decide +kernel
theorem d_Qu_units_14 : decode b_Qu_units 14 = .ok (.if_icmp .ne 16, 3) := by decide +kernel
theorem d_Qu_units_17 : decode b_Qu_units 17 = .ok (.aload_n 0, 1) := by decide +kernel
theorem d_Qu_units_18 : decode b_Qu_units 18 = .ok (.getfield 24, 3) := by decide +kernel
theorem d_Qu_units_21 : decode b_Qu_units 21 = .ok (.iload_n 1, 1) := by decide +kernel
theorem d_Qu_units_22 : decode b_Qu_units 22 = .ok (.iadd, 1) := by decide +kernel
theorem d_Qu_units_23 : decode b_Qu_units 23 = .ok (.iconst 1, 1) := by decide +kernel
theorem d_Qu_units_24 : decode b_Qu_units 24 = .ok (.isub, 1) := by decide +kernel
theorem d_Qu_units_25 : decode b_Qu_units 25 = .ok (.iload_n 1, 1) := by decide +kernel
theorem d_Qu_units_26 : decode b_Qu_units 26 = .ok (.idiv, 1) := by decide +kernel
theorem d_Qu_units_27 : decode b_Qu_units 27 = .ok (.goto 4, 3) := by decide +kernel
theorem d_Qu_units_30 : decode b_Qu_units 30 = .ok (.iconst 1, 1) := by decide +kernel
theorem d_Qu_units_31 : decode b_Qu_units 31 = .ok (.ireturn, 1) := by decide +kernel
theorem d_Qu_part_0 : decode b_Qu_part 0 = .ok (.iload_n 1, 1) := by decide +kernel
theorem d_Qu_part_1 : decode b_Qu_part 1 = .ok (.tableswitch 67 0 4 #[35, 40, 45, 50, 55], 35) := by decide +kernel
theorem d_Qu_part_36 : decode b_Qu_part 36 = .ok (.aload_n 0, 1) := by decide +kernel
theorem d_Qu_part_37 : decode b_Qu_part 37 = .ok (.getfield 15, 3) := by decide +kernel
theorem d_Qu_part_40 : decode b_Qu_part 40 = .ok (.ireturn, 1) := by decide +kernel
theorem d_Qu_part_41 : decode b_Qu_part 41 = .ok (.aload_n 0, 1) := by decide +kernel
theorem d_Qu_part_42 : decode b_Qu_part 42 = .ok (.invokevirtual 36, 3) := by decide +kernel
theorem d_Qu_part_45 : decode b_Qu_part 45 = .ok (.ireturn, 1) := by decide +kernel
theorem d_Qu_part_46 : decode b_Qu_part 46 = .ok (.aload_n 0, 1) := by decide +kernel
theorem d_Qu_part_47 : decode b_Qu_part 47 = .ok (.invokevirtual 40, 3) := by decide +kernel
theorem d_Qu_part_50 : decode b_Qu_part 50 = .ok (.ireturn, 1) := by decide +kernel
theorem d_Qu_part_51 : decode b_Qu_part 51 = .ok (.aload_n 0, 1) := by decide +kernel
theorem d_Qu_part_52 : decode b_Qu_part 52 = .ok (.getfield 27, 3) := by decide +kernel
theorem d_Qu_part_55 : decode b_Qu_part 55 = .ok (.ireturn, 1) := by decide +kernel
theorem d_Qu_part_56 : decode b_Qu_part 56 = .ok (.aload_n 0, 1) := by decide +kernel
theorem d_Qu_part_57 : decode b_Qu_part 57 = .ok (.invokevirtual 40, 3) := by decide +kernel
theorem d_Qu_part_60 : decode b_Qu_part 60 = .ok (.aload_n 0, 1) := by decide +kernel
theorem d_Qu_part_61 : decode b_Qu_part 61 = .ok (.getfield 27, 3) := by decide +kernel
theorem d_Qu_part_64 : decode b_Qu_part 64 = .ok (.iconst 1, 1) := by decide +kernel
theorem d_Qu_part_65 : decode b_Qu_part 65 = .ok (.iadd, 1) := by decide +kernel
theorem d_Qu_part_66 : decode b_Qu_part 66 = .ok (.imul, 1) := by decide +kernel
theorem d_Qu_part_67 : decode b_Qu_part 67 = .ok (.ireturn, 1) := by decide +kernel
theorem d_Qu_part_68 : decode b_Qu_part 68 = .ok (.bipush (-102), 2) := by decide +kernel
theorem d_Qu_part_70 : decode b_Qu_part 70 = .ok (.ireturn, 1) := by decide +kernel
theorem k_107 : (.fieldLink R_Qu 15 "PrivateQueries$Question" "sort" "I" : Cond) ∈ wG := wGm 269 (by decide +kernel) (by decide +kernel)
theorem k_108 : (.fieldLink R_Qu 18 "PrivateQueries$Question" "column" "I" : Cond) ∈ wG := wGm 270 (by decide +kernel) (by decide +kernel)
theorem k_109 : (.fieldLink R_Qu 21 "PrivateQueries$Question" "low" "I" : Cond) ∈ wG := wGm 273 (by decide +kernel) (by decide +kernel)
theorem k_110 : (.fieldLink R_Qu 24 "PrivateQueries$Question" "high" "I" : Cond) ∈ wG := wGm 275 (by decide +kernel) (by decide +kernel)
theorem k_111 : (.fieldLink R_Qu 9 "PrivateQueries$Question" "by" "I" : Cond) ∈ wG := wGm 277 (by decide +kernel) (by decide +kernel)
theorem k_112 : (.fieldLink R_Qu 27 "PrivateQueries$Question" "top" "I" : Cond) ∈ wG := wGm 279 (by decide +kernel) (by decide +kernel)
theorem k_113 : (.fieldLink R_Qu 30 "PrivateQueries$Question" "start" "I" : Cond) ∈ wG := wGm 282 (by decide +kernel) (by decide +kernel)
theorem k_114 : (.fieldLink R_Qu 33 "PrivateQueries$Question" "end" "I" : Cond) ∈ wG := wGm 285 (by decide +kernel) (by decide +kernel)
theorem k_115 : (.methodLink R_Qu 43 Lib.Math.max.name : Cond) ∈ wG := wGm 753 (by decide +kernel) (by decide +kernel)
theorem k_116 : (.methodLink R_Qu 36 y_Qu_units : Cond) ∈ wG := wGm 749 (by decide +kernel) (by decide +kernel)
theorem k_117 : (.instanceMethod y_Qu_units : Cond) ∈ wG := wGm 751 (by decide +kernel) (by decide +kernel)
theorem k_118 : (.selects R_Qu y_Qu_units y_Qu_units : Cond) ∈ wG := wGm 21 (by decide +kernel) (by decide +kernel)
theorem k_119 : (.initialized R_Qu : Cond) ∈ wG := wGm 96 (by decide +kernel) (by decide +kernel)
theorem k_120 : (.code y_Qu_units b_Qu_units 2 (some .int) : Cond) ∈ wG := wGm 752 (by decide +kernel) (by decide +kernel)
theorem k_121 : (.methodLink R_Qu 40 y_Qu_numbers : Cond) ∈ wG := wGm 754 (by decide +kernel) (by decide +kernel)
theorem k_122 : (.instanceMethod y_Qu_numbers : Cond) ∈ wG := wGm 755 (by decide +kernel) (by decide +kernel)
theorem k_123 : (.selects R_Qu y_Qu_numbers y_Qu_numbers : Cond) ∈ wG := wGm 756 (by decide +kernel) (by decide +kernel)
theorem k_124 : (.code y_Qu_numbers b_Qu_numbers 1 (some .int) : Cond) ∈ wG := wGm 757 (by decide +kernel) (by decide +kernel)
theorem g_Qu_36 : GoodIn wG (wsV R_Qu 36 R_Qu y_Qu_units w_Qu_units) := wGa (fun w hw => by
  rcases List.mem_cons.mp hw with e | hw
  · exact e ▸ k_116
  rcases List.mem_cons.mp hw with e | hw
  · exact e ▸ k_117
  rcases List.mem_cons.mp hw with e | hw
  · exact e ▸ k_118
  rcases List.mem_cons.mp hw with e | hw
  · exact e ▸ k_119
  · exact absurd hw List.not_mem_nil) (wGc k_120)
theorem g_Qu_40 : GoodIn wG (wsV R_Qu 40 R_Qu y_Qu_numbers w_Qu_numbers) := wGa (fun w hw => by
  rcases List.mem_cons.mp hw with e | hw
  · exact e ▸ k_121
  rcases List.mem_cons.mp hw with e | hw
  · exact e ▸ k_122
  rcases List.mem_cons.mp hw with e | hw
  · exact e ▸ k_123
  rcases List.mem_cons.mp hw with e | hw
  · exact e ▸ k_119
  · exact absurd hw List.not_mem_nil) (wGc k_124)
set_option maxHeartbeats 4000000 in
set_option maxRecDepth 100000 in
theorem c_Qu_begin (l : Launch) (G : GG) (h : Nat) (v_sort : Int32) (v_column : Int32) (v_low : Int32) (v_high : Int32) (v_by : Int32) (v_top : Int32) (v_start : Int32) (v_end : Int32) (x : Int32) : Det l G y_Qu_begin w_Qu_begin (rmD 0) 0 0 [.ref h, .int x] [(h, .inr (9, [.int v_sort, .int v_column, .int v_low, .int v_high, .int v_by, .int v_top, .int v_start, .int v_end]))] none [(h, .inr (9, [.int x, .int 0, .int 0, .int 0, .int 1, .int 0, .int 0, .int 0]))] := by
  refine Det.of (cc := b_Qu_begin) (maxL := 2) (ret := none) (by decide) rfl (Nat.le_of_ble_eq_true rfl) ?_
  intro p e s m args below meth c A ls hx hb hr hml hown hts hlocks hin hA hK hZ hP hD hS hl
  have hts : ∀ w ∈ wG, w.before args s = true := fun w h => hts w (List.mem_cons_of_mem _ h)
  have hown : s.vm.findClass R_Qu = some m.cls := hown
  have hl : lv_has ls 2 [(0, .ref h), (1, .int x)] := hl
  refine lv_aload_n hx hb d_Qu_begin_0 rfl (lv_at hl 0 rfl) ?_
  refine lv_iload_n hx hb d_Qu_begin_1 rfl (lv_at hl 1 rfl) ?_
  refine va_put (D := G.1) (ci := 9) (v := .int x) (ty := .int) (C := R_Qu) (T := F_Qu) (N := 8) hx hb hts i_Qu t_Qu t_Qu_ok n_Qu hown hK hP hD hS 0 rfl rfl 0 (by decide) (hts (.fieldLink R_Qu 15 "PrivateQueries$Question" "sort" "I") k_107) (fun _ h9 => h9) rfl (by decide +kernel) rfl rfl (Nat.le_of_ble_eq_true rfl) d_Qu_begin_2 (fun H locs hP hD hS => ?_)
  have hP : va_P G.1 classes [(h, .inr (9, [.int x, .int v_column, .int v_low, .int v_high, .int v_by, .int v_top, .int v_start, .int v_end]))] H := hP
  have hD : va_D A [(h, .inr (9, [.int x, .int v_column, .int v_low, .int v_high, .int v_by, .int v_top, .int v_start, .int v_end]))] := hD
  refine lv_aload_n hx hb d_Qu_begin_5 rfl (lv_at hl 0 rfl) ?_
  refine lv_iconst (v := 0) hx hb d_Qu_begin_6 (by decide) ?_
  refine va_put (D := G.1) (ci := 9) (v := .int 0) (ty := .int) (C := R_Qu) (T := F_Qu) (N := 8) hx hb hts i_Qu t_Qu t_Qu_ok n_Qu hown hK hP hD hS 0 rfl rfl 1 (by decide) (hts (.fieldLink R_Qu 18 "PrivateQueries$Question" "column" "I") k_108) (fun _ h9 => h9) rfl (by decide +kernel) rfl rfl (Nat.le_of_ble_eq_true rfl) d_Qu_begin_7 (fun H locs hP hD hS => ?_)
  have hP : va_P G.1 classes [(h, .inr (9, [.int x, .int 0, .int v_low, .int v_high, .int v_by, .int v_top, .int v_start, .int v_end]))] H := hP
  have hD : va_D A [(h, .inr (9, [.int x, .int 0, .int v_low, .int v_high, .int v_by, .int v_top, .int v_start, .int v_end]))] := hD
  refine lv_aload_n hx hb d_Qu_begin_10 rfl (lv_at hl 0 rfl) ?_
  refine lv_iconst (v := 0) hx hb d_Qu_begin_11 (by decide) ?_
  refine va_put (D := G.1) (ci := 9) (v := .int 0) (ty := .int) (C := R_Qu) (T := F_Qu) (N := 8) hx hb hts i_Qu t_Qu t_Qu_ok n_Qu hown hK hP hD hS 0 rfl rfl 2 (by decide) (hts (.fieldLink R_Qu 21 "PrivateQueries$Question" "low" "I") k_109) (fun _ h9 => h9) rfl (by decide +kernel) rfl rfl (Nat.le_of_ble_eq_true rfl) d_Qu_begin_12 (fun H locs hP hD hS => ?_)
  have hP : va_P G.1 classes [(h, .inr (9, [.int x, .int 0, .int 0, .int v_high, .int v_by, .int v_top, .int v_start, .int v_end]))] H := hP
  have hD : va_D A [(h, .inr (9, [.int x, .int 0, .int 0, .int v_high, .int v_by, .int v_top, .int v_start, .int v_end]))] := hD
  refine lv_aload_n hx hb d_Qu_begin_15 rfl (lv_at hl 0 rfl) ?_
  refine lv_iconst (v := 0) hx hb d_Qu_begin_16 (by decide) ?_
  refine va_put (D := G.1) (ci := 9) (v := .int 0) (ty := .int) (C := R_Qu) (T := F_Qu) (N := 8) hx hb hts i_Qu t_Qu t_Qu_ok n_Qu hown hK hP hD hS 0 rfl rfl 3 (by decide) (hts (.fieldLink R_Qu 24 "PrivateQueries$Question" "high" "I") k_110) (fun _ h9 => h9) rfl (by decide +kernel) rfl rfl (Nat.le_of_ble_eq_true rfl) d_Qu_begin_17 (fun H locs hP hD hS => ?_)
  have hP : va_P G.1 classes [(h, .inr (9, [.int x, .int 0, .int 0, .int 0, .int v_by, .int v_top, .int v_start, .int v_end]))] H := hP
  have hD : va_D A [(h, .inr (9, [.int x, .int 0, .int 0, .int 0, .int v_by, .int v_top, .int v_start, .int v_end]))] := hD
  refine lv_aload_n hx hb d_Qu_begin_20 rfl (lv_at hl 0 rfl) ?_
  refine lv_iconst (v := 1) hx hb d_Qu_begin_21 (by decide) ?_
  refine va_put (D := G.1) (ci := 9) (v := .int 1) (ty := .int) (C := R_Qu) (T := F_Qu) (N := 8) hx hb hts i_Qu t_Qu t_Qu_ok n_Qu hown hK hP hD hS 0 rfl rfl 4 (by decide) (hts (.fieldLink R_Qu 9 "PrivateQueries$Question" "by" "I") k_111) (fun _ h9 => h9) rfl (by decide +kernel) rfl rfl (Nat.le_of_ble_eq_true rfl) d_Qu_begin_22 (fun H locs hP hD hS => ?_)
  have hP : va_P G.1 classes [(h, .inr (9, [.int x, .int 0, .int 0, .int 0, .int 1, .int v_top, .int v_start, .int v_end]))] H := hP
  have hD : va_D A [(h, .inr (9, [.int x, .int 0, .int 0, .int 0, .int 1, .int v_top, .int v_start, .int v_end]))] := hD
  refine lv_aload_n hx hb d_Qu_begin_25 rfl (lv_at hl 0 rfl) ?_
  refine lv_iconst (v := 0) hx hb d_Qu_begin_26 (by decide) ?_
  refine va_put (D := G.1) (ci := 9) (v := .int 0) (ty := .int) (C := R_Qu) (T := F_Qu) (N := 8) hx hb hts i_Qu t_Qu t_Qu_ok n_Qu hown hK hP hD hS 0 rfl rfl 5 (by decide) (hts (.fieldLink R_Qu 27 "PrivateQueries$Question" "top" "I") k_112) (fun _ h9 => h9) rfl (by decide +kernel) rfl rfl (Nat.le_of_ble_eq_true rfl) d_Qu_begin_27 (fun H locs hP hD hS => ?_)
  have hP : va_P G.1 classes [(h, .inr (9, [.int x, .int 0, .int 0, .int 0, .int 1, .int 0, .int v_start, .int v_end]))] H := hP
  have hD : va_D A [(h, .inr (9, [.int x, .int 0, .int 0, .int 0, .int 1, .int 0, .int v_start, .int v_end]))] := hD
  refine lv_aload_n hx hb d_Qu_begin_30 rfl (lv_at hl 0 rfl) ?_
  refine lv_iconst (v := 0) hx hb d_Qu_begin_31 (by decide) ?_
  refine va_put (D := G.1) (ci := 9) (v := .int 0) (ty := .int) (C := R_Qu) (T := F_Qu) (N := 8) hx hb hts i_Qu t_Qu t_Qu_ok n_Qu hown hK hP hD hS 0 rfl rfl 6 (by decide) (hts (.fieldLink R_Qu 30 "PrivateQueries$Question" "start" "I") k_113) (fun _ h9 => h9) rfl (by decide +kernel) rfl rfl (Nat.le_of_ble_eq_true rfl) d_Qu_begin_32 (fun H locs hP hD hS => ?_)
  have hP : va_P G.1 classes [(h, .inr (9, [.int x, .int 0, .int 0, .int 0, .int 1, .int 0, .int 0, .int v_end]))] H := hP
  have hD : va_D A [(h, .inr (9, [.int x, .int 0, .int 0, .int 0, .int 1, .int 0, .int 0, .int v_end]))] := hD
  refine lv_aload_n hx hb d_Qu_begin_35 rfl (lv_at hl 0 rfl) ?_
  refine lv_iconst (v := 0) hx hb d_Qu_begin_36 (by decide) ?_
  refine va_put (D := G.1) (ci := 9) (v := .int 0) (ty := .int) (C := R_Qu) (T := F_Qu) (N := 8) hx hb hts i_Qu t_Qu t_Qu_ok n_Qu hown hK hP hD hS 0 rfl rfl 7 (by decide) (hts (.fieldLink R_Qu 33 "PrivateQueries$Question" "end" "I") k_114) (fun _ h9 => h9) rfl (by decide +kernel) rfl rfl (Nat.le_of_ble_eq_true rfl) d_Qu_begin_37 (fun H locs hP hD hS => ?_)
  have hP : va_P G.1 classes [(h, .inr (9, [.int x, .int 0, .int 0, .int 0, .int 1, .int 0, .int 0, .int 0]))] H := hP
  have hD : va_D A [(h, .inr (9, [.int x, .int 0, .int 0, .int 0, .int 1, .int 0, .int 0, .int 0]))] := hD
  exact ly_vret hx hb hr hlocks hP hD hS d_Qu_begin_40 rfl rfl

set_option maxHeartbeats 4000000 in
set_option maxRecDepth 100000 in
theorem c_Qu_numbers (l : Launch) (G : GG) (h : Nat) (v_sort : Int32) (v_column : Int32) (v_low : Int32) (v_high : Int32) (v_by : Int32) (v_top : Int32) (v_start : Int32) (v_end : Int32) : Det l G y_Qu_numbers w_Qu_numbers (rmD 0) 0 0 [.ref h] [(h, .inr (9, [.int v_sort, .int v_column, .int v_low, .int v_high, .int v_by, .int v_top, .int v_start, .int v_end]))] (some (.int (s_Qu_numbers v_sort v_low v_high))) [(h, .inr (9, [.int v_sort, .int v_column, .int v_low, .int v_high, .int v_by, .int v_top, .int v_start, .int v_end]))] := by
  refine Det.of (cc := b_Qu_numbers) (maxL := 1) (ret := (some .int)) (by decide) rfl (Nat.le_of_ble_eq_true rfl) ?_
  intro p e s m args below meth c A ls hx hb hr hml hown hts hlocks hin hA hK hZ hP hD hS hl
  have hts : ∀ w ∈ wG, w.before args s = true := fun w h => hts w (List.mem_cons_of_mem _ h)
  have hown : s.vm.findClass R_Qu = some m.cls := hown
  have hl : lv_has ls 1 [(0, .ref h)] := hl
  refine lv_aload_n hx hb d_Qu_numbers_0 rfl (lv_at hl 0 rfl) ?_
  refine va_get (D := G.1) (ci := 9) (C := R_Qu) (T := F_Qu) (N := 8) (v := .int v_sort) hx hb hts i_Qu hown hK hP 0 rfl rfl 0 (by decide) (hts (.fieldLink R_Qu 15 "PrivateQueries$Question" "sort" "I") k_107) (fun _ h9 => h9) rfl d_Qu_numbers_1 ?_
  refine lv_iconst (v := 2) hx hb d_Qu_numbers_4 (by decide) ?_
  refine lv_icmp_ne (tgt := 22) hx hb d_Qu_numbers_5 (by decide) (fun c1 => ?_) (fun c1 => ?_)
  · skip
    refine lv_iconst (v := 1) hx hb d_Qu_numbers_22 (by decide) ?_
    exact ly_iret hx hb hr hlocks hP hD hS d_Qu_numbers_23 (by rw [s_Qu_numbers, if_neg c1]) rfl
  refine lv_aload_n hx hb d_Qu_numbers_8 rfl (lv_at hl 0 rfl) ?_
  refine va_get (D := G.1) (ci := 9) (C := R_Qu) (T := F_Qu) (N := 8) (v := .int v_high) hx hb hts i_Qu hown hK hP 0 rfl rfl 3 (by decide) (hts (.fieldLink R_Qu 24 "PrivateQueries$Question" "high" "I") k_110) (fun _ h9 => h9) rfl d_Qu_numbers_9 ?_
  refine lv_aload_n hx hb d_Qu_numbers_12 rfl (lv_at hl 0 rfl) ?_
  refine va_get (D := G.1) (ci := 9) (C := R_Qu) (T := F_Qu) (N := 8) (v := .int v_low) hx hb hts i_Qu hown hK hP 0 rfl rfl 2 (by decide) (hts (.fieldLink R_Qu 21 "PrivateQueries$Question" "low" "I") k_109) (fun _ h9 => h9) rfl d_Qu_numbers_13 ?_
  refine lv_isub hx hb d_Qu_numbers_16 ?_
  refine lv_iconst (v := 1) hx hb d_Qu_numbers_17 (by decide) ?_
  refine lv_iadd hx hb d_Qu_numbers_18 ?_
  refine lv_goto (tgt := 23) hx hb d_Qu_numbers_19 (by decide) ?_
  exact ly_iret hx hb hr hlocks hP hD hS d_Qu_numbers_23 (by rw [s_Qu_numbers, if_pos c1]) rfl

theorem qu_ne (v : Int32) : ¬ (if v < 1 then 1 else v) = 0 := by
  split
  · decide
  · rename_i h
    intro e
    exact h (by rw [e]; decide)
set_option maxHeartbeats 4000000 in
set_option maxRecDepth 100000 in
theorem c_Qu_units (l : Launch) (G : GG) (h : Nat) (v_sort : Int32) (v_column : Int32) (v_low : Int32) (v_high : Int32) (v_by : Int32) (v_top : Int32) (v_start : Int32) (v_end : Int32) : Det l G y_Qu_units w_Qu_units (rmD 1) 0 0 [.ref h] [(h, .inr (9, [.int v_sort, .int v_column, .int v_low, .int v_high, .int v_by, .int v_top, .int v_start, .int v_end]))] (some (.int (s_Qu_units v_sort v_high v_by))) [(h, .inr (9, [.int v_sort, .int v_column, .int v_low, .int v_high, .int v_by, .int v_top, .int v_start, .int v_end]))] := by
  refine Det.of (cc := b_Qu_units) (maxL := 2) (ret := (some .int)) (by decide) rfl (Nat.le_of_ble_eq_true rfl) ?_
  intro p e s m args below meth c A ls hx hb hr hml hown hts hlocks hin hA hK hZ hP hD hS hl
  have hts : ∀ w ∈ wG, w.before args s = true := fun w h => hts w (List.mem_cons_of_mem _ h)
  have hown : s.vm.findClass R_Qu = some m.cls := hown
  have hl : lv_has ls 2 [(0, .ref h)] := hl
  refine lv_aload_n hx hb d_Qu_units_0 rfl (lv_at hl 0 rfl) ?_
  refine va_get (D := G.1) (ci := 9) (C := R_Qu) (T := F_Qu) (N := 8) (v := .int v_by) hx hb hts i_Qu hown hK hP 0 rfl rfl 4 (by decide) (hts (.fieldLink R_Qu 9 "PrivateQueries$Question" "by" "I") k_111) (fun _ h9 => h9) rfl d_Qu_units_1 ?_
  refine lv_iconst (v := 1) hx hb d_Qu_units_4 (by decide) ?_
  refine va_mmax hx hb (hml.trans hl.1.symm) hown (hts (.methodLink R_Qu 43 Lib.Math.max.name) k_115) (hts (.static Lib.Math.max.name) k_51) (hts (.initialized "java/lang/Math") k_52) (hts (.code Lib.Math.max.name Lib.Math.max.code 2 (some .int)) k_53) (Nat.le_of_ble_eq_true rfl) (Nat.le_of_ble_eq_true rfl) (Nat.zero_le _) (Nat.zero_le _) d_Qu_units_5 ?_
  refine lv_istore_n (lv' := [(1, .int (if v_by < 1 then 1 else v_by)), (0, .ref h)]) hx hb d_Qu_units_8 rfl hl (by decide) rfl (fun ls hl => ?_)
  refine lv_aload_n hx hb d_Qu_units_9 rfl (lv_at hl 1 rfl) ?_
  refine va_get (D := G.1) (ci := 9) (C := R_Qu) (T := F_Qu) (N := 8) (v := .int v_sort) hx hb hts i_Qu hown hK hP 0 rfl rfl 0 (by decide) (hts (.fieldLink R_Qu 15 "PrivateQueries$Question" "sort" "I") k_107) (fun _ h9 => h9) rfl d_Qu_units_10 ?_
  refine lv_iconst (v := 1) hx hb d_Qu_units_13 (by decide) ?_
  refine lv_icmp_ne (tgt := 30) hx hb d_Qu_units_14 (by decide) (fun c1 => ?_) (fun c1 => ?_)
  · skip
    refine lv_iconst (v := 1) hx hb d_Qu_units_30 (by decide) ?_
    exact ly_iret hx hb hr hlocks hP hD hS d_Qu_units_31 (by rw [s_Qu_units, if_neg c1]) rfl
  refine lv_aload_n hx hb d_Qu_units_17 rfl (lv_at hl 1 rfl) ?_
  refine va_get (D := G.1) (ci := 9) (C := R_Qu) (T := F_Qu) (N := 8) (v := .int v_high) hx hb hts i_Qu hown hK hP 0 rfl rfl 3 (by decide) (hts (.fieldLink R_Qu 24 "PrivateQueries$Question" "high" "I") k_110) (fun _ h9 => h9) rfl d_Qu_units_18 ?_
  refine lv_iload_n hx hb d_Qu_units_21 rfl (lv_at hl 0 rfl) ?_
  refine lv_iadd hx hb d_Qu_units_22 ?_
  refine lv_iconst (v := 1) hx hb d_Qu_units_23 (by decide) ?_
  refine lv_isub hx hb d_Qu_units_24 ?_
  refine lv_iload_n hx hb d_Qu_units_25 rfl (lv_at hl 0 rfl) ?_
  refine lv_idiv hx hb d_Qu_units_26 (qu_ne v_by) ?_
  refine lv_goto (tgt := 31) hx hb d_Qu_units_27 (by decide) ?_
  exact ly_iret hx hb hr hlocks hP hD hS d_Qu_units_31 (by rw [s_Qu_units, if_pos c1]) rfl

set_option maxHeartbeats 4000000 in
set_option maxRecDepth 100000 in
theorem c_Qu_part (l : Launch) (G : GG) (h : Nat) (v_sort : Int32) (v_column : Int32) (v_low : Int32) (v_high : Int32) (v_by : Int32) (v_top : Int32) (v_start : Int32) (v_end : Int32) (x : Int32) : Det l G y_Qu_part w_Qu_part (rmD 2) 0 0 [.ref h, .int x] [(h, .inr (9, [.int v_sort, .int v_column, .int v_low, .int v_high, .int v_by, .int v_top, .int v_start, .int v_end]))] (some (.int (s_Qu_part v_sort v_low v_high v_by v_top x))) [(h, .inr (9, [.int v_sort, .int v_column, .int v_low, .int v_high, .int v_by, .int v_top, .int v_start, .int v_end]))] := by
  refine Det.of (cc := b_Qu_part) (maxL := 2) (ret := (some .int)) (by decide) rfl (Nat.le_of_ble_eq_true rfl) ?_
  intro p e s m args below meth c A ls hx hb hr hml hown hts hlocks hin hA hK hZ hP hD hS hl
  have hts : ∀ w ∈ wG, w.before args s = true := fun w h => hts w (List.mem_cons_of_mem _ h)
  have hown : s.vm.findClass R_Qu = some m.cls := hown
  have hl : lv_has ls 2 [(0, .ref h), (1, .int x)] := hl
  refine lv_iload_n hx hb d_Qu_part_0 rfl (lv_at hl 1 rfl) ?_
  by_cases c1 : x = 0
  · skip
    refine lv_tableIn (off := 35) (tgt := 36) hx hb d_Qu_part_1 (by rw [c1]; decide) (by rw [c1]; decide) (by first | (rw [c1]; done) | (rw [c1]; rfl)) (by decide) ?_
    refine lv_aload_n hx hb d_Qu_part_36 rfl (lv_at hl 0 rfl) ?_
    refine va_get (D := G.1) (ci := 9) (C := R_Qu) (T := F_Qu) (N := 8) (v := .int v_sort) hx hb hts i_Qu hown hK hP 0 rfl rfl 0 (by decide) (hts (.fieldLink R_Qu 15 "PrivateQueries$Question" "sort" "I") k_107) (fun _ h9 => h9) rfl d_Qu_part_37 ?_
    exact ly_iret hx hb hr hlocks hP hD hS d_Qu_part_40 (by rw [s_Qu_part, if_pos c1]) rfl
  by_cases c2 : x = 1
  · skip
    refine lv_tableIn (off := 40) (tgt := 41) hx hb d_Qu_part_1 (by rw [c2]; decide) (by rw [c2]; decide) (by first | (rw [c2]; done) | (rw [c2]; rfl)) (by decide) ?_
    refine lv_aload_n hx hb d_Qu_part_41 rfl (lv_at hl 0 rfl) ?_
    obtain ⟨r1, hr1⟩ : ∃ r, (s_Qu_units v_sort v_high v_by) = r := ⟨_, rfl⟩
    have hC_r1 := (c_Qu_units l G h v_sort v_column v_low v_high v_by v_top v_start v_end)
    rw [hr1] at hC_r1
    refine ly_callV (rest := []) (wf := [(h, .inr (9, [.int v_sort, .int v_column, .int v_low, .int v_high, .int v_by, .int v_top, .int v_start, .int v_end]))]) ⟨hx, hb, hml, hown, hts⟩ hA hK hZ hP hD hS hC_r1 (cwV 0 hts g_Qu_36 rfl rfl rfl (by decide +kernel) ⟨Nat.le_of_ble_eq_true rfl, Nat.le_of_ble_eq_true rfl⟩) (ci := 9) (q0 := 0) rfl rfl rfl [0] rfl (by decide) rfl rfl rfl hl.1 rfl (Nat.le_of_ble_eq_true rfl) d_Qu_part_42 ⟨Nat.le_of_ble_eq_true rfl, Nat.le_of_ble_eq_true rfl⟩ (st1 := [.int r1]) (c1 := 0) (s1 := 0) rfl rfl rfl (fun H locs hP hD hS => ?_)
    exact ly_iret hx hb hr hlocks hP hD hS d_Qu_part_45 (by rw [s_Qu_part] <;> simp only [hr1] <;> rw [if_neg c1, if_pos c2]) rfl
  by_cases c3 : x = 2
  · skip
    refine lv_tableIn (off := 45) (tgt := 46) hx hb d_Qu_part_1 (by rw [c3]; decide) (by rw [c3]; decide) (by first | (rw [c3]; done) | (rw [c3]; rfl)) (by decide) ?_
    refine lv_aload_n hx hb d_Qu_part_46 rfl (lv_at hl 0 rfl) ?_
    obtain ⟨r2, hr2⟩ : ∃ r, (s_Qu_numbers v_sort v_low v_high) = r := ⟨_, rfl⟩
    have hC_r2 := (c_Qu_numbers l G h v_sort v_column v_low v_high v_by v_top v_start v_end)
    rw [hr2] at hC_r2
    refine ly_callV (rest := []) (wf := [(h, .inr (9, [.int v_sort, .int v_column, .int v_low, .int v_high, .int v_by, .int v_top, .int v_start, .int v_end]))]) ⟨hx, hb, hml, hown, hts⟩ hA hK hZ hP hD hS hC_r2 (cwV 0 hts g_Qu_40 rfl rfl rfl (by decide +kernel) ⟨Nat.le_of_ble_eq_true rfl, Nat.le_of_ble_eq_true rfl⟩) (ci := 9) (q0 := 0) rfl rfl rfl [0] rfl (by decide) rfl rfl rfl hl.1 rfl (Nat.le_of_ble_eq_true rfl) d_Qu_part_47 ⟨Nat.le_of_ble_eq_true rfl, Nat.le_of_ble_eq_true rfl⟩ (st1 := [.int r2]) (c1 := 0) (s1 := 0) rfl rfl rfl (fun H locs hP hD hS => ?_)
    exact ly_iret hx hb hr hlocks hP hD hS d_Qu_part_50 (by rw [s_Qu_part] <;> simp only [hr2] <;> rw [if_neg c1, if_neg c2, if_pos c3]) rfl
  by_cases c4 : x = 3
  · skip
    refine lv_tableIn (off := 50) (tgt := 51) hx hb d_Qu_part_1 (by rw [c4]; decide) (by rw [c4]; decide) (by first | (rw [c4]; done) | (rw [c4]; rfl)) (by decide) ?_
    refine lv_aload_n hx hb d_Qu_part_51 rfl (lv_at hl 0 rfl) ?_
    refine va_get (D := G.1) (ci := 9) (C := R_Qu) (T := F_Qu) (N := 8) (v := .int v_top) hx hb hts i_Qu hown hK hP 0 rfl rfl 5 (by decide) (hts (.fieldLink R_Qu 27 "PrivateQueries$Question" "top" "I") k_112) (fun _ h9 => h9) rfl d_Qu_part_52 ?_
    exact ly_iret hx hb hr hlocks hP hD hS d_Qu_part_55 (by rw [s_Qu_part, if_neg c1, if_neg c2, if_neg c3, if_pos c4]) rfl
  by_cases c5 : x = 4
  · skip
    refine lv_tableIn (off := 55) (tgt := 56) hx hb d_Qu_part_1 (by rw [c5]; decide) (by rw [c5]; decide) (by first | (rw [c5]; done) | (rw [c5]; rfl)) (by decide) ?_
    refine lv_aload_n hx hb d_Qu_part_56 rfl (lv_at hl 0 rfl) ?_
    obtain ⟨r3, hr3⟩ : ∃ r, (s_Qu_numbers v_sort v_low v_high) = r := ⟨_, rfl⟩
    have hC_r3 := (c_Qu_numbers l G h v_sort v_column v_low v_high v_by v_top v_start v_end)
    rw [hr3] at hC_r3
    refine ly_callV (rest := []) (wf := [(h, .inr (9, [.int v_sort, .int v_column, .int v_low, .int v_high, .int v_by, .int v_top, .int v_start, .int v_end]))]) ⟨hx, hb, hml, hown, hts⟩ hA hK hZ hP hD hS hC_r3 (cwV 0 hts g_Qu_40 rfl rfl rfl (by decide +kernel) ⟨Nat.le_of_ble_eq_true rfl, Nat.le_of_ble_eq_true rfl⟩) (ci := 9) (q0 := 0) rfl rfl rfl [0] rfl (by decide) rfl rfl rfl hl.1 rfl (Nat.le_of_ble_eq_true rfl) d_Qu_part_57 ⟨Nat.le_of_ble_eq_true rfl, Nat.le_of_ble_eq_true rfl⟩ (st1 := [.int r3]) (c1 := 0) (s1 := 0) rfl rfl rfl (fun H locs hP hD hS => ?_)
    refine lv_aload_n hx hb d_Qu_part_60 rfl (lv_at hl 0 rfl) ?_
    refine va_get (D := G.1) (ci := 9) (C := R_Qu) (T := F_Qu) (N := 8) (v := .int v_top) hx hb hts i_Qu hown hK hP 0 rfl rfl 5 (by decide) (hts (.fieldLink R_Qu 27 "PrivateQueries$Question" "top" "I") k_112) (fun _ h9 => h9) rfl d_Qu_part_61 ?_
    refine lv_iconst (v := 1) hx hb d_Qu_part_64 (by decide) ?_
    refine lv_iadd hx hb d_Qu_part_65 ?_
    refine lv_imul hx hb d_Qu_part_66 ?_
    exact ly_iret hx hb hr hlocks hP hD hS d_Qu_part_67 (by rw [s_Qu_part] <;> simp only [hr3] <;> rw [if_neg c1, if_neg c2, if_neg c3, if_neg c4, if_pos c5]) rfl
  refine lv_tableOut (tgt := 68) hx hb d_Qu_part_1 (by have gc1 := ly_ne c1 (by decide : (0 : Int32).toInt = 0); have gc2 := ly_ne c2 (by decide : (1 : Int32).toInt = 1); have gc3 := ly_ne c3 (by decide : (2 : Int32).toInt = 2); have gc4 := ly_ne c4 (by decide : (3 : Int32).toInt = 3); have gc5 := ly_ne c5 (by decide : (4 : Int32).toInt = 4); omega) (by decide) ?_
  refine lv_bipush (v := (-102)) hx hb d_Qu_part_68 (by decide) ?_
  exact ly_iret hx hb hr hlocks hP hD hS d_Qu_part_70 (by rw [s_Qu_part, if_neg c1, if_neg c2, if_neg c3, if_neg c4, if_neg c5]) rfl
