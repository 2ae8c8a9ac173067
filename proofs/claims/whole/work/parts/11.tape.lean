theorem d_Tape_size_0 : decode b_Tape_size 0 = .ok (.aload_n 0, 1) := by decide +kernel
theorem d_Tape_size_1 : decode b_Tape_size 1 = .ok (.getfield 20, 3) := by decide +kernel
theorem d_Tape_size_4 : decode b_Tape_size 4 = .ok (.ireturn, 1) := by decide +kernel
theorem d_Tape_isCell_0 : decode b_Tape_isCell 0 = .ok (.iload_n 1, 1) := by decide +kernel
theorem d_Tape_isCell_1 : decode b_Tape_isCell 1 = .ok (.ifCond .lt 25, 3) := by decide +kernel
theorem d_Tape_isCell_4 : decode b_Tape_isCell 4 = .ok (.iload_n 1, 1) := by decide +kernel
theorem d_Tape_isCell_5 : decode b_Tape_isCell 5 = .ok (.aload_n 0, 1) := by decide +kernel
theorem d_Tape_isCell_6 : decode b_Tape_isCell 6 = .ok (.getfield 13, 3) := by decide +kernel
theorem d_Tape_isCell_9 : decode b_Tape_isCell 9 = .ok (.aload_n 0, 1) := by decide +kernel
theorem d_Tape_isCell_10 : decode b_Tape_isCell 10 = .ok (.getfield 7, 3) := by decide +kernel
theorem d_Tape_isCell_13 : decode b_Tape_isCell 13 = .ok (.aload_n 0, 1) := by decide +kernel
theorem d_Tape_isCell_14 : decode b_Tape_isCell 14 = .ok (.getfield 13, 3) := by decide +kernel
theorem d_Tape_isCell_17 : decode b_Tape_isCell 17 = .ok (.iadd, 1) := by decide +kernel
theorem d_Tape_isCell_18 : decode b_Tape_isCell 18 = .ok (.imul, 1) := by decide +kernel
theorem d_Tape_isCell_19 : decode b_Tape_isCell 19 = .ok (.if_icmp .ge 7, 3) := by decide +kernel
theorem d_Tape_isCell_22 : decode b_Tape_isCell 22 = .ok (.iconst 1, 1) := by decide +kernel
theorem d_Tape_isCell_23 : decode b_Tape_isCell 23 = .ok (.goto 4, 3) := by decide +kernel
theorem d_Tape_isCell_26 : decode b_Tape_isCell 26 = .ok (.iconst 0, 1) := by decide +kernel
theorem d_Tape_isCell_27 : decode b_Tape_isCell 27 = .ok (.ireturn, 1) := by decide +kernel
theorem d_Tape_add_0 : decode b_Tape_add 0 = .ok (.aload_n 0, 1) := by decide +kernel
theorem d_Tape_add_1 : decode b_Tape_add 1 = .ok (.getfield 20, 3) := by decide +kernel
theorem d_Tape_add_4 : decode b_Tape_add 4 = .ok (.aload_n 0, 1) := by decide +kernel
theorem d_Tape_add_5 : decode b_Tape_add 5 = .ok (.getfield 16, 3) := by decide +kernel
theorem d_Tape_add_8 : decode b_Tape_add 8 = .ok (.arraylength, 1) := by decide +kernel
theorem d_Tape_add_9 : decode b_Tape_add 9 = .ok (.if_icmp .ge 23, 3) := by decide +kernel
theorem d_Tape_add_12 : decode b_Tape_add 12 = .ok (.aload_n 0, 1) := by decide +kernel
theorem d_Tape_add_13 : decode b_Tape_add 13 = .ok (.getfield 16, 3) := by decide +kernel
theorem d_Tape_add_16 : decode b_Tape_add 16 = .ok (.aload_n 0, 1) := by decide +kernel
theorem d_Tape_add_17 : decode b_Tape_add 17 = .ok (.getfield 20, 3) := by decide +kernel
theorem d_Tape_add_20 : decode b_Tape_add 20 = .ok (.iload_n 1, 1) := by decide +kernel
theorem d_Tape_add_21 : decode b_Tape_add 21 = .ok (.iastore, 1) := by decide +kernel
theorem d_Tape_add_22 : decode b_Tape_add 22 = .ok (.aload_n 0, 1) := by decide +kernel
theorem d_Tape_add_23 : decode b_Tape_add 23 = .ok (.dup, 1) := by decide +kernel
theorem d_Tape_add_24 : decode b_Tape_add 24 = .ok (.getfield 20, 3) := by decide +kernel
theorem d_Tape_add_27 : decode b_Tape_add 27 = .ok (.iconst 1, 1) := by decide +kernel
theorem d_Tape_add_28 : decode b_Tape_add 28 = .ok (.iadd, 1) := by decide +kernel
theorem d_Tape_add_29 : decode b_Tape_add 29 = .ok (.putfield 20, 3) := by decide +kernel
theorem d_Tape_add_32 : decode b_Tape_add 32 = .ok (.return_, 1) := by decide +kernel
theorem d_Tape_at_0 : decode b_Tape_at 0 = .ok (.iload_n 1, 1) := by decide +kernel
theorem d_Tape_at_1 : decode b_Tape_at 1 = .ok (.ifCond .lt 20, 3) := by decide +kernel
theorem d_Tape_at_4 : decode b_Tape_at 4 = .ok (.iload_n 1, 1) := by decide +kernel
theorem d_Tape_at_5 : decode b_Tape_at 5 = .ok (.aload_n 0, 1) := by decide +kernel
theorem d_Tape_at_6 : decode b_Tape_at 6 = .ok (.getfield 20, 3) := by decide +kernel
theorem d_Tape_at_9 : decode b_Tape_at 9 = .ok (.if_icmp .ge 12, 3) := by decide +kernel
theorem d_Tape_at_12 : decode b_Tape_at 12 = .ok (.aload_n 0, 1) := by decide +kernel
theorem d_Tape_at_13 : decode b_Tape_at 13 = .ok (.getfield 16, 3) := by decide +kernel
theorem d_Tape_at_16 : decode b_Tape_at 16 = .ok (.iload_n 1, 1) := by decide +kernel
theorem d_Tape_at_17 : decode b_Tape_at 17 = .ok (.iaload, 1) := by decide +kernel
theorem d_Tape_at_18 : decode b_Tape_at 18 = .ok (.goto 4, 3) := by decide +kernel
theorem d_Tape_at_21 : decode b_Tape_at 21 = .ok (.iconst 0, 1) := by decide +kernel
theorem d_Tape_at_22 : decode b_Tape_at 22 = .ok (.ireturn, 1) := by decide +kernel
theorem d_Tape_remove_0 : decode b_Tape_remove 0 = .ok (.iload_n 1, 1) := by decide +kernel
theorem d_Tape_remove_1 : decode b_Tape_remove 1 = .ok (.ifCond .lt 11, 3) := by decide +kernel
theorem d_Tape_remove_4 : decode b_Tape_remove 4 = .ok (.iload_n 1, 1) := by decide +kernel
theorem d_Tape_remove_5 : decode b_Tape_remove 5 = .ok (.aload_n 0, 1) := by decide +kernel
theorem d_Tape_remove_6 : decode b_Tape_remove 6 = .ok (.getfield 20, 3) := by decide +kernel
theorem d_Tape_remove_9 : decode b_Tape_remove 9 = .ok (.if_icmp .le 4, 3) := by decide +kernel
theorem d_Tape_remove_12 : decode b_Tape_remove 12 = .ok (.return_, 1) := by decide +kernel
theorem d_Tape_remove_13 : decode b_Tape_remove 13 = .ok (.aload_n 0, 1) := by decide +kernel
theorem d_Tape_remove_14 : decode b_Tape_remove 14 = .ok (.getfield 16, 3) := by decide +kernel
theorem d_Tape_remove_17 : decode b_Tape_remove 17 = .ok (.iload_n 1, 1) := by decide +kernel
theorem d_Tape_remove_18 : decode b_Tape_remove 18 = .ok (.aload_n 0, 1) := by decide +kernel
theorem d_Tape_remove_19 : decode b_Tape_remove 19 = .ok (.getfield 16, 3) := by decide +kernel
theorem d_Tape_remove_22 : decode b_Tape_remove 22 = .ok (.iconst 0, 1) := by decide +kernel
theorem d_Tape_remove_23 : decode b_Tape_remove 23 = .ok (.aload_n 0, 1) := by decide +kernel
theorem d_Tape_remove_24 : decode b_Tape_remove 24 = .ok (.getfield 20, 3) := by decide +kernel
theorem d_Tape_remove_27 : decode b_Tape_remove 27 = .ok (.iload_n 1, 1) := by decide +kernel
theorem d_Tape_remove_28 : decode b_Tape_remove 28 = .ok (.isub, 1) := by decide +kernel
theorem d_Tape_remove_29 : decode b_Tape_remove 29 = .ok (.invokestatic 23, 3) := by decide +kernel
theorem d_Tape_remove_32 : decode b_Tape_remove 32 = .ok (.aload_n 0, 1) := by decide +kernel
theorem d_Tape_remove_33 : decode b_Tape_remove 33 = .ok (.dup, 1) := by decide +kernel
theorem d_Tape_remove_34 : decode b_Tape_remove 34 = .ok (.getfield 20, 3) := by decide +kernel
theorem d_Tape_remove_37 : decode b_Tape_remove 37 = .ok (.iload_n 1, 1) := by decide +kernel
theorem d_Tape_remove_38 : decode b_Tape_remove 38 = .ok (.isub, 1) := by decide +kernel
theorem d_Tape_remove_39 : decode b_Tape_remove 39 = .ok (.putfield 20, 3) := by decide +kernel
theorem d_Tape_remove_42 : decode b_Tape_remove 42 = .ok (.return_, 1) := by decide +kernel
theorem d_Tape_blockNoise_0 : decode b_Tape_blockNoise 0 = .ok (.aload_n 0, 1) := by decide +kernel
theorem d_Tape_blockNoise_1 : decode b_Tape_blockNoise 1 = .ok (.getfield 13, 3) := by decide +kernel
theorem d_Tape_blockNoise_4 : decode b_Tape_blockNoise 4 = .ok (.aload_n 0, 1) := by decide +kernel
theorem d_Tape_blockNoise_5 : decode b_Tape_blockNoise 5 = .ok (.getfield 13, 3) := by decide +kernel
theorem d_Tape_blockNoise_8 : decode b_Tape_blockNoise 8 = .ok (.aload_n 0, 1) := by decide +kernel
theorem d_Tape_blockNoise_9 : decode b_Tape_blockNoise 9 = .ok (.getfield 7, 3) := by decide +kernel
theorem d_Tape_blockNoise_12 : decode b_Tape_blockNoise 12 = .ok (.isub, 1) := by decide +kernel
theorem d_Tape_blockNoise_13 : decode b_Tape_blockNoise 13 = .ok (.imul, 1) := by decide +kernel
theorem d_Tape_blockNoise_14 : decode b_Tape_blockNoise 14 = .ok (.istore_n 3, 1) := by decide +kernel
theorem d_Tape_blockNoise_15 : decode b_Tape_blockNoise 15 = .ok (.aload_n 0, 1) := by decide +kernel
theorem d_Tape_blockNoise_16 : decode b_Tape_blockNoise 16 = .ok (.iload_n 1, 1) := by decide +kernel
theorem d_Tape_blockNoise_17 : decode b_Tape_blockNoise 17 = .ok (.invokevirtual 29, 3) := by decide +kernel
theorem d_Tape_blockNoise_20 : decode b_Tape_blockNoise 20 = .ok (.istore 4, 2) := by decide +kernel
theorem d_Tape_blockNoise_22 : decode b_Tape_blockNoise 22 = .ok (.iload 4, 2) := by decide +kernel
theorem d_Tape_blockNoise_24 : decode b_Tape_blockNoise 24 = .ok (.iload_n 3, 1) := by decide +kernel
theorem d_Tape_blockNoise_25 : decode b_Tape_blockNoise 25 = .ok (.if_icmp .ge 5, 3) := by decide +kernel
theorem d_Tape_blockNoise_28 : decode b_Tape_blockNoise 28 = .ok (.iconst 0, 1) := by decide +kernel
theorem d_Tape_blockNoise_29 : decode b_Tape_blockNoise 29 = .ok (.ireturn, 1) := by decide +kernel
theorem d_Tape_blockNoise_30 : decode b_Tape_blockNoise 30 = .ok (.iconst 1, 1) := by decide +kernel
theorem d_Tape_blockNoise_31 : decode b_Tape_blockNoise 31 = .ok (.istore 5, 2) := by decide +kernel
theorem d_Tape_blockNoise_33 : decode b_Tape_blockNoise 33 = .ok (.iconst 1, 1) := by decide +kernel
theorem d_Tape_blockNoise_34 : decode b_Tape_blockNoise 34 = .ok (.istore 6, 2) := by decide +kernel
theorem d_Tape_blockNoise_36 : decode b_Tape_blockNoise 36 = .ok (.iload 6, 2) := by decide +kernel
theorem d_Tape_blockNoise_38 : decode b_Tape_blockNoise 38 = .ok (.iload_n 2, 1) := by decide +kernel
theorem d_Tape_blockNoise_39 : decode b_Tape_blockNoise 39 = .ok (.if_icmp .gt 37, 3) := by decide +kernel
theorem d_Tape_blockNoise_42 : decode b_Tape_blockNoise 42 = .ok (.aload_n 0, 1) := by decide +kernel
theorem d_Tape_blockNoise_43 : decode b_Tape_blockNoise 43 = .ok (.iload_n 1, 1) := by decide +kernel
theorem d_Tape_blockNoise_44 : decode b_Tape_blockNoise 44 = .ok (.iload 6, 2) := by decide +kernel
theorem d_Tape_blockNoise_46 : decode b_Tape_blockNoise 46 = .ok (.iadd, 1) := by decide +kernel
theorem d_Tape_blockNoise_47 : decode b_Tape_blockNoise 47 = .ok (.invokevirtual 29, 3) := by decide +kernel
theorem d_Tape_blockNoise_50 : decode b_Tape_blockNoise 50 = .ok (.aload_n 0, 1) := by decide +kernel
theorem d_Tape_blockNoise_51 : decode b_Tape_blockNoise 51 = .ok (.getfield 7, 3) := by decide +kernel
theorem d_Tape_blockNoise_54 : decode b_Tape_blockNoise 54 = .ok (.aload_n 0, 1) := by decide +kernel
theorem d_Tape_blockNoise_55 : decode b_Tape_blockNoise 55 = .ok (.getfield 7, 3) := by decide +kernel
theorem d_Tape_blockNoise_58 : decode b_Tape_blockNoise 58 = .ok (.aload_n 0, 1) := by decide +kernel
theorem d_Tape_blockNoise_59 : decode b_Tape_blockNoise 59 = .ok (.getfield 13, 3) := by decide +kernel
theorem d_Tape_blockNoise_62 : decode b_Tape_blockNoise 62 = .ok (.iadd, 1) := by decide +kernel
theorem d_Tape_blockNoise_63 : decode b_Tape_blockNoise 63 = .ok (.imul, 1) := by decide +kernel
theorem d_Tape_blockNoise_64 : decode b_Tape_blockNoise 64 = .ok (.if_icmp .ge 12, 3) := by decide +kernel
theorem d_Tape_blockNoise_67 : decode b_Tape_blockNoise 67 = .ok (.iinc 5 1, 3) := by decide +kernel
theorem d_Tape_blockNoise_70 : decode b_Tape_blockNoise 70 = .ok (.iinc 6 1, 3) := by decide +kernel
theorem d_Tape_blockNoise_73 : decode b_Tape_blockNoise 73 = .ok (.goto (-37), 3) := by decide +kernel
theorem d_Tape_blockNoise_76 : decode b_Tape_blockNoise 76 = .ok (.iload 4, 2) := by decide +kernel
theorem d_Tape_blockNoise_78 : decode b_Tape_blockNoise 78 = .ok (.iload_n 3, 1) := by decide +kernel
theorem d_Tape_blockNoise_79 : decode b_Tape_blockNoise 79 = .ok (.aload_n 0, 1) := by decide +kernel
theorem d_Tape_blockNoise_80 : decode b_Tape_blockNoise 80 = .ok (.getfield 7, 3) := by decide +kernel
theorem d_Tape_blockNoise_83 : decode b_Tape_blockNoise 83 = .ok (.aload_n 0, 1) := by decide +kernel
theorem d_Tape_blockNoise_84 : decode b_Tape_blockNoise 84 = .ok (.getfield 13, 3) := by decide +kernel
theorem d_Tape_blockNoise_87 : decode b_Tape_blockNoise 87 = .ok (.imul, 1) := by decide +kernel
theorem d_Tape_blockNoise_88 : decode b_Tape_blockNoise 88 = .ok (.iadd, 1) := by decide +kernel
theorem d_Tape_blockNoise_89 : decode b_Tape_blockNoise 89 = .ok (.if_icmp .ge 8, 3) := by decide +kernel
theorem d_Tape_blockNoise_92 : decode b_Tape_blockNoise 92 = .ok (.iload 5, 2) := by decide +kernel
theorem d_Tape_blockNoise_94 : decode b_Tape_blockNoise 94 = .ok (.goto 6, 3) := by decide +kernel
theorem d_Tape_blockNoise_97 : decode b_Tape_blockNoise 97 = .ok (.iload 5, 2) := by decide +kernel
theorem d_Tape_blockNoise_99 : decode b_Tape_blockNoise 99 = .ok (.ineg, 1) := by decide +kernel
theorem d_Tape_blockNoise_100 : decode b_Tape_blockNoise 100 = .ok (.ireturn, 1) := by decide +kernel
theorem k_6 : (.fieldLink R_Tape 20 "PrivateQueries$Tape" "size" "I" : Cond) ∈ wG := wGm 145 (by decide +kernel) (by decide +kernel)
theorem k_7 : (.fieldLink R_Tape 13 "PrivateQueries$Tape" "q" "I" : Cond) ∈ wG := wGm 143 (by decide +kernel) (by decide +kernel)
theorem k_8 : (.fieldLink R_Tape 7 "PrivateQueries$Tape" "p" "I" : Cond) ∈ wG := wGm 142 (by decide +kernel) (by decide +kernel)
theorem k_9 : (.fieldLink R_Tape 16 "PrivateQueries$Tape" "cells" "[I" : Cond) ∈ wG := wGm 144 (by decide +kernel) (by decide +kernel)
theorem k_10 : (.methodLink R_Tape 23 arraycopyName : Cond) ∈ wG := wGm 851 (by decide +kernel) (by decide +kernel)
theorem k_11 : (.methodLink R_Tape 29 y_Tape_at : Cond) ∈ wG := wGm 843 (by decide +kernel) (by decide +kernel)
theorem k_12 : (.instanceMethod y_Tape_at : Cond) ∈ wG := wGm 845 (by decide +kernel) (by decide +kernel)
theorem k_13 : (.selects R_Tape y_Tape_at y_Tape_at : Cond) ∈ wG := wGm 28 (by decide +kernel) (by decide +kernel)
theorem k_14 : (.initialized R_Tape : Cond) ∈ wG := wGm 88 (by decide +kernel) (by decide +kernel)
theorem k_15 : (.code y_Tape_at b_Tape_at 2 (some .int) : Cond) ∈ wG := wGm 846 (by decide +kernel) (by decide +kernel)
theorem g_Tape_29 : GoodIn wG (wsV R_Tape 29 R_Tape y_Tape_at w_Tape_at) := wGa (fun w hw => by
  rcases List.mem_cons.mp hw with e | hw
  · exact e ▸ k_11
  rcases List.mem_cons.mp hw with e | hw
  · exact e ▸ k_12
  rcases List.mem_cons.mp hw with e | hw
  · exact e ▸ k_13
  rcases List.mem_cons.mp hw with e | hw
  · exact e ▸ k_14
  · exact absurd hw List.not_mem_nil) (wGc k_15)
set_option maxHeartbeats 4000000 in
set_option maxRecDepth 100000 in
theorem c_Tape_size (l : Launch) (G : GG) (h : Nat) (a_cells : Nat) (v_p : Int32) (v_q : Int32) (v_size : Int32) : Det l G y_Tape_size w_Tape_size (rmD 0) 0 0 [.ref h] [(h, .inr (2, [.int v_p, .int v_q, .ref a_cells, .int v_size]))] (some (.int v_size)) [(h, .inr (2, [.int v_p, .int v_q, .ref a_cells, .int v_size]))] := by
  refine Det.of (cc := b_Tape_size) (maxL := 1) (ret := (some .int)) (by decide) rfl (Nat.le_of_ble_eq_true rfl) ?_
  intro p e s m args below meth c A ls hx hb hr hml hown hts hlocks hin hA hK hZ hP hD hS hl
  have hts : ∀ w ∈ wG, w.before args s = true := fun w h => hts w (List.mem_cons_of_mem _ h)
  have hown : s.vm.findClass R_Tape = some m.cls := hown
  have hl : lv_has ls 1 [(0, .ref h)] := hl
  refine lv_aload_n hx hb d_Tape_size_0 rfl (lv_at hl 0 rfl) ?_
  refine va_get (D := G.1) (ci := 2) (C := R_Tape) (T := F_Tape) (N := 4) (v := .int v_size) hx hb hts i_Tape hown hK hP 0 rfl rfl 3 (by decide) (hts (.fieldLink R_Tape 20 "PrivateQueries$Tape" "size" "I") k_6) (fun _ h9 => h9) rfl d_Tape_size_1 ?_
  exact ly_iret hx hb hr hlocks hP hD hS d_Tape_size_4 rfl rfl

theorem z_Tape_isCell {v_p : Int32} {v_q : Int32} {x : Int32} : isB (s_Tape_isCell v_p v_q x) := by
  rw [s_Tape_isCell]
  by_cases ct1 : x < 0
  · rw [if_pos ct1]
    first | exact isB_0 | exact isB_1 | assumption
  rw [if_neg ct1]
  by_cases ct2 : (v_q * (v_p + v_q)) ≤ x
  · rw [if_pos ct2]
    first | exact isB_0 | exact isB_1 | assumption
  rw [if_neg ct2]
  first | exact isB_0 | exact isB_1 | assumption
set_option maxHeartbeats 4000000 in
set_option maxRecDepth 100000 in
theorem c_Tape_isCell (l : Launch) (G : GG) (h : Nat) (a_cells : Nat) (v_p : Int32) (v_q : Int32) (v_size : Int32) (x : Int32) : Det l G y_Tape_isCell w_Tape_isCell (rmD 0) 0 0 [.ref h, .int x] [(h, .inr (2, [.int v_p, .int v_q, .ref a_cells, .int v_size]))] (some (.int (s_Tape_isCell v_p v_q x))) [(h, .inr (2, [.int v_p, .int v_q, .ref a_cells, .int v_size]))] := by
  refine Det.of (cc := b_Tape_isCell) (maxL := 2) (ret := (some .boolean)) (by decide) rfl (Nat.le_of_ble_eq_true rfl) ?_
  intro p e s m args below meth c A ls hx hb hr hml hown hts hlocks hin hA hK hZ hP hD hS hl
  have hts : ∀ w ∈ wG, w.before args s = true := fun w h => hts w (List.mem_cons_of_mem _ h)
  have hown : s.vm.findClass R_Tape = some m.cls := hown
  have hl : lv_has ls 2 [(0, .ref h), (1, .int x)] := hl
  refine lv_iload_n hx hb d_Tape_isCell_0 rfl (lv_at hl 1 rfl) ?_
  refine lv_if_lt (tgt := 26) hx hb d_Tape_isCell_1 (by decide) (fun c1 => ?_) (fun c1 => ?_)
  · skip
    refine lv_iconst (v := 0) hx hb d_Tape_isCell_26 (by decide) ?_
    exact ly_zret hx hb hr hlocks hP hD hS d_Tape_isCell_27 (by decide) (by rw [s_Tape_isCell, if_pos c1]) rfl
  refine lv_iload_n hx hb d_Tape_isCell_4 rfl (lv_at hl 1 rfl) ?_
  refine lv_aload_n hx hb d_Tape_isCell_5 rfl (lv_at hl 0 rfl) ?_
  refine va_get (D := G.1) (ci := 2) (C := R_Tape) (T := F_Tape) (N := 4) (v := .int v_q) hx hb hts i_Tape hown hK hP 0 rfl rfl 1 (by decide) (hts (.fieldLink R_Tape 13 "PrivateQueries$Tape" "q" "I") k_7) (fun _ h9 => h9) rfl d_Tape_isCell_6 ?_
  refine lv_aload_n hx hb d_Tape_isCell_9 rfl (lv_at hl 0 rfl) ?_
  refine va_get (D := G.1) (ci := 2) (C := R_Tape) (T := F_Tape) (N := 4) (v := .int v_p) hx hb hts i_Tape hown hK hP 0 rfl rfl 0 (by decide) (hts (.fieldLink R_Tape 7 "PrivateQueries$Tape" "p" "I") k_8) (fun _ h9 => h9) rfl d_Tape_isCell_10 ?_
  refine lv_aload_n hx hb d_Tape_isCell_13 rfl (lv_at hl 0 rfl) ?_
  refine va_get (D := G.1) (ci := 2) (C := R_Tape) (T := F_Tape) (N := 4) (v := .int v_q) hx hb hts i_Tape hown hK hP 0 rfl rfl 1 (by decide) (hts (.fieldLink R_Tape 13 "PrivateQueries$Tape" "q" "I") k_7) (fun _ h9 => h9) rfl d_Tape_isCell_14 ?_
  refine lv_iadd hx hb d_Tape_isCell_17 ?_
  refine lv_imul hx hb d_Tape_isCell_18 ?_
  refine lv_icmp_ge (tgt := 26) hx hb d_Tape_isCell_19 (by decide) (fun c2 => ?_) (fun c2 => ?_)
  · skip
    refine lv_iconst (v := 0) hx hb d_Tape_isCell_26 (by decide) ?_
    exact ly_zret hx hb hr hlocks hP hD hS d_Tape_isCell_27 (by decide) (by rw [s_Tape_isCell, if_neg c1, if_pos c2]) rfl
  refine lv_iconst (v := 1) hx hb d_Tape_isCell_22 (by decide) ?_
  refine lv_goto (tgt := 27) hx hb d_Tape_isCell_23 (by decide) ?_
  exact ly_zret hx hb hr hlocks hP hD hS d_Tape_isCell_27 (by decide) (by rw [s_Tape_isCell, if_neg c1, if_neg c2]) rfl

set_option maxHeartbeats 4000000 in
set_option maxRecDepth 100000 in
theorem c_Tape_add (l : Launch) (G : GG) (h : Nat) (a_cells : Nat) (v_p : Int32) (v_q : Int32) (f_cells : Nat → Int32) (v_size : Int32) (x : Int32) (hz_v_size : up v_size 3000) : Det l G y_Tape_add w_Tape_add (rmD 0) 0 0 [.ref h, .int x] [(h, .inr (2, [.int v_p, .int v_q, .ref a_cells, .int v_size])), (a_cells, .inl (gI G, 3000, .inl f_cells))] none [(h, .inr (2, [.int v_p, .int v_q, .ref a_cells, .int (s_Tape_add f_cells v_size x).1])), (a_cells, .inl (gI G, 3000, .inl (s_Tape_add f_cells v_size x).2))] := by
  refine Det.of (cc := b_Tape_add) (maxL := 2) (ret := none) (by decide) rfl (Nat.le_of_ble_eq_true rfl) ?_
  intro p e s m args below meth c A ls hx hb hr hml hown hts hlocks hin hA hK hZ hP hD hS hl
  have hts : ∀ w ∈ wG, w.before args s = true := fun w h => hts w (List.mem_cons_of_mem _ h)
  have hown : s.vm.findClass R_Tape = some m.cls := hown
  have hl : lv_has ls 2 [(0, .ref h), (1, .int x)] := hl
  refine lv_aload_n hx hb d_Tape_add_0 rfl (lv_at hl 0 rfl) ?_
  refine va_get (D := G.1) (ci := 2) (C := R_Tape) (T := F_Tape) (N := 4) (v := .int v_size) hx hb hts i_Tape hown hK hP 0 rfl rfl 3 (by decide) (hts (.fieldLink R_Tape 20 "PrivateQueries$Tape" "size" "I") k_6) (fun _ h9 => h9) rfl d_Tape_add_1 ?_
  refine lv_aload_n hx hb d_Tape_add_4 rfl (lv_at hl 0 rfl) ?_
  refine va_get (D := G.1) (ci := 2) (C := R_Tape) (T := F_Tape) (N := 4) (v := .ref a_cells) hx hb hts i_Tape hown hK hP 0 rfl rfl 2 (by decide) (hts (.fieldLink R_Tape 16 "PrivateQueries$Tape" "cells" "[I") k_9) (fun _ h9 => h9) rfl d_Tape_add_5 ?_
  refine va_alen (v := 3000) hx hb hK hP 1 0 rfl rfl (show Int32.ofNat 3000 = 3000 by decide) d_Tape_add_8 ?_
  refine lv_icmp_ge (tgt := 32) hx hb d_Tape_add_9 (by decide) (fun c1 => ?_) (fun c1 => ?_)
  · skip
    exact ly_vret hx hb hr hlocks hP hD hS d_Tape_add_32 rfl (by rw [s_Tape_add, if_pos c1])
  refine lv_aload_n hx hb d_Tape_add_12 rfl (lv_at hl 0 rfl) ?_
  refine va_get (D := G.1) (ci := 2) (C := R_Tape) (T := F_Tape) (N := 4) (v := .ref a_cells) hx hb hts i_Tape hown hK hP 0 rfl rfl 2 (by decide) (hts (.fieldLink R_Tape 16 "PrivateQueries$Tape" "cells" "[I") k_9) (fun _ h9 => h9) rfl d_Tape_add_13 ?_
  refine lv_aload_n hx hb d_Tape_add_16 rfl (lv_at hl 0 rfl) ?_
  refine va_get (D := G.1) (ci := 2) (C := R_Tape) (T := F_Tape) (N := 4) (v := .int v_size) hx hb hts i_Tape hown hK hP 0 rfl rfl 3 (by decide) (hts (.fieldLink R_Tape 20 "PrivateQueries$Tape" "size" "I") k_6) (fun _ h9 => h9) rfl d_Tape_add_17 ?_
  refine lv_iload_n hx hb d_Tape_add_20 rfl (lv_at hl 1 rfl) ?_
  refine va_iast hx hb hK hP hD hS 1 0 rfl rfl (ly_mk hz_v_size.1 (ly_hi (by decide) c1)) d_Tape_add_21 (fun H locs hP hD hS => ?_)
  have hP : va_P G.1 classes [(h, .inr (2, [.int v_p, .int v_q, .ref a_cells, .int v_size])), (a_cells, .inl (gI G, 3000, .inl (upd f_cells v_size.toNatClampNeg x)))] H := hP
  have hD : va_D A [(h, .inr (2, [.int v_p, .int v_q, .ref a_cells, .int v_size])), (a_cells, .inl (gI G, 3000, .inl (upd f_cells v_size.toNatClampNeg x)))] := hD
  refine lv_aload_n hx hb d_Tape_add_22 rfl (lv_at hl 0 rfl) ?_
  refine lv_dup hx hb d_Tape_add_23 rfl ?_
  refine va_get (D := G.1) (ci := 2) (C := R_Tape) (T := F_Tape) (N := 4) (v := .int v_size) hx hb hts i_Tape hown hK hP 0 rfl rfl 3 (by decide) (hts (.fieldLink R_Tape 20 "PrivateQueries$Tape" "size" "I") k_6) (fun _ h9 => h9) rfl d_Tape_add_24 ?_
  refine lv_iconst (v := 1) hx hb d_Tape_add_27 (by decide) ?_
  refine lv_iadd hx hb d_Tape_add_28 ?_
  refine va_put (D := G.1) (ci := 2) (v := .int (v_size + 1)) (ty := .int) (C := R_Tape) (T := F_Tape) (N := 4) hx hb hts i_Tape t_Tape t_Tape_ok n_Tape hown hK hP hD hS 0 rfl rfl 3 (by decide) (hts (.fieldLink R_Tape 20 "PrivateQueries$Tape" "size" "I") k_6) (fun _ h9 => h9) rfl (by decide +kernel) rfl rfl (Nat.le_of_ble_eq_true rfl) d_Tape_add_29 (fun H locs hP hD hS => ?_)
  have hP : va_P G.1 classes [(h, .inr (2, [.int v_p, .int v_q, .ref a_cells, .int (v_size + 1)])), (a_cells, .inl (gI G, 3000, .inl (upd f_cells v_size.toNatClampNeg x)))] H := hP
  have hD : va_D A [(h, .inr (2, [.int v_p, .int v_q, .ref a_cells, .int (v_size + 1)])), (a_cells, .inl (gI G, 3000, .inl (upd f_cells v_size.toNatClampNeg x)))] := hD
  exact ly_vret hx hb hr hlocks hP hD hS d_Tape_add_32 rfl (by rw [s_Tape_add, if_neg c1])

set_option maxHeartbeats 4000000 in
set_option maxRecDepth 100000 in
theorem c_Tape_at (l : Launch) (G : GG) (h : Nat) (a_cells : Nat) (v_p : Int32) (v_q : Int32) (f_cells : Nat → Int32) (v_size : Int32) (x : Int32) (hz_v_size : up v_size 3000) : Det l G y_Tape_at w_Tape_at (rmD 0) 0 0 [.ref h, .int x] [(h, .inr (2, [.int v_p, .int v_q, .ref a_cells, .int v_size])), (a_cells, .inl (gI G, 3000, .inl f_cells))] (some (.int (s_Tape_at f_cells v_size x))) [(h, .inr (2, [.int v_p, .int v_q, .ref a_cells, .int v_size])), (a_cells, .inl (gI G, 3000, .inl f_cells))] := by
  refine Det.of (cc := b_Tape_at) (maxL := 2) (ret := (some .int)) (by decide) rfl (Nat.le_of_ble_eq_true rfl) ?_
  intro p e s m args below meth c A ls hx hb hr hml hown hts hlocks hin hA hK hZ hP hD hS hl
  have hts : ∀ w ∈ wG, w.before args s = true := fun w h => hts w (List.mem_cons_of_mem _ h)
  have hown : s.vm.findClass R_Tape = some m.cls := hown
  have hl : lv_has ls 2 [(0, .ref h), (1, .int x)] := hl
  refine lv_iload_n hx hb d_Tape_at_0 rfl (lv_at hl 1 rfl) ?_
  refine lv_if_lt (tgt := 21) hx hb d_Tape_at_1 (by decide) (fun c1 => ?_) (fun c1 => ?_)
  · skip
    refine lv_iconst (v := 0) hx hb d_Tape_at_21 (by decide) ?_
    exact ly_iret hx hb hr hlocks hP hD hS d_Tape_at_22 (by rw [s_Tape_at, if_pos c1]) rfl
  refine lv_iload_n hx hb d_Tape_at_4 rfl (lv_at hl 1 rfl) ?_
  refine lv_aload_n hx hb d_Tape_at_5 rfl (lv_at hl 0 rfl) ?_
  refine va_get (D := G.1) (ci := 2) (C := R_Tape) (T := F_Tape) (N := 4) (v := .int v_size) hx hb hts i_Tape hown hK hP 0 rfl rfl 3 (by decide) (hts (.fieldLink R_Tape 20 "PrivateQueries$Tape" "size" "I") k_6) (fun _ h9 => h9) rfl d_Tape_at_6 ?_
  refine lv_icmp_ge (tgt := 21) hx hb d_Tape_at_9 (by decide) (fun c2 => ?_) (fun c2 => ?_)
  · skip
    refine lv_iconst (v := 0) hx hb d_Tape_at_21 (by decide) ?_
    exact ly_iret hx hb hr hlocks hP hD hS d_Tape_at_22 (by rw [s_Tape_at, if_neg c1, if_pos c2]) rfl
  refine lv_aload_n hx hb d_Tape_at_12 rfl (lv_at hl 0 rfl) ?_
  refine va_get (D := G.1) (ci := 2) (C := R_Tape) (T := F_Tape) (N := 4) (v := .ref a_cells) hx hb hts i_Tape hown hK hP 0 rfl rfl 2 (by decide) (hts (.fieldLink R_Tape 16 "PrivateQueries$Tape" "cells" "[I") k_9) (fun _ h9 => h9) rfl d_Tape_at_13 ?_
  refine lv_iload_n hx hb d_Tape_at_16 rfl (lv_at hl 1 rfl) ?_
  refine va_iald hx hb hK hP 1 0 rfl rfl (ly_mk (ly_lo c1) (ly_hiV hz_v_size.2 c2)) d_Tape_at_17 ?_
  refine lv_goto (tgt := 22) hx hb d_Tape_at_18 (by decide) ?_
  exact ly_iret hx hb hr hlocks hP hD hS d_Tape_at_22 (by rw [s_Tape_at, if_neg c1, if_neg c2]) rfl

set_option maxHeartbeats 4000000 in
set_option maxRecDepth 100000 in
theorem c_Tape_remove (l : Launch) (G : GG) (h : Nat) (a_cells : Nat) (v_p : Int32) (v_q : Int32) (f_cells : Nat → Int32) (v_size : Int32) (x : Int32) (hz_v_size : up v_size 3000) : Det l G y_Tape_remove w_Tape_remove (rmD 1) 0 0 [.ref h, .int x] [(h, .inr (2, [.int v_p, .int v_q, .ref a_cells, .int v_size])), (a_cells, .inl (gI G, 3000, .inl f_cells))] none [(h, .inr (2, [.int v_p, .int v_q, .ref a_cells, .int (s_Tape_remove f_cells v_size x).1])), (a_cells, .inl (gI G, 3000, .inl (s_Tape_remove f_cells v_size x).2))] := by
  refine Det.of (cc := b_Tape_remove) (maxL := 2) (ret := none) (by decide) rfl (Nat.le_of_ble_eq_true rfl) ?_
  intro p e s m args below meth c A ls hx hb hr hml hown hts hlocks hin hA hK hZ hP hD hS hl
  have hts : ∀ w ∈ wG, w.before args s = true := fun w h => hts w (List.mem_cons_of_mem _ h)
  have hown : s.vm.findClass R_Tape = some m.cls := hown
  have hl : lv_has ls 2 [(0, .ref h), (1, .int x)] := hl
  refine lv_iload_n hx hb d_Tape_remove_0 rfl (lv_at hl 1 rfl) ?_
  refine lv_if_lt (tgt := 12) hx hb d_Tape_remove_1 (by decide) (fun c1 => ?_) (fun c1 => ?_)
  · skip
    exact ly_vret hx hb hr hlocks hP hD hS d_Tape_remove_12 rfl (by rw [s_Tape_remove, if_pos c1])
  refine lv_iload_n hx hb d_Tape_remove_4 rfl (lv_at hl 1 rfl) ?_
  refine lv_aload_n hx hb d_Tape_remove_5 rfl (lv_at hl 0 rfl) ?_
  refine va_get (D := G.1) (ci := 2) (C := R_Tape) (T := F_Tape) (N := 4) (v := .int v_size) hx hb hts i_Tape hown hK hP 0 rfl rfl 3 (by decide) (hts (.fieldLink R_Tape 20 "PrivateQueries$Tape" "size" "I") k_6) (fun _ h9 => h9) rfl d_Tape_remove_6 ?_
  refine lv_icmp_le (tgt := 13) hx hb d_Tape_remove_9 (by decide) (fun c2 => ?_) (fun c2 => ?_)
  · skip
    refine lv_aload_n hx hb d_Tape_remove_13 rfl (lv_at hl 0 rfl) ?_
    refine va_get (D := G.1) (ci := 2) (C := R_Tape) (T := F_Tape) (N := 4) (v := .ref a_cells) hx hb hts i_Tape hown hK hP 0 rfl rfl 2 (by decide) (hts (.fieldLink R_Tape 16 "PrivateQueries$Tape" "cells" "[I") k_9) (fun _ h9 => h9) rfl d_Tape_remove_14 ?_
    refine lv_iload_n hx hb d_Tape_remove_17 rfl (lv_at hl 1 rfl) ?_
    refine lv_aload_n hx hb d_Tape_remove_18 rfl (lv_at hl 0 rfl) ?_
    refine va_get (D := G.1) (ci := 2) (C := R_Tape) (T := F_Tape) (N := 4) (v := .ref a_cells) hx hb hts i_Tape hown hK hP 0 rfl rfl 2 (by decide) (hts (.fieldLink R_Tape 16 "PrivateQueries$Tape" "cells" "[I") k_9) (fun _ h9 => h9) rfl d_Tape_remove_19 ?_
    refine lv_iconst (v := 0) hx hb d_Tape_remove_22 (by decide) ?_
    refine lv_aload_n hx hb d_Tape_remove_23 rfl (lv_at hl 0 rfl) ?_
    refine va_get (D := G.1) (ci := 2) (C := R_Tape) (T := F_Tape) (N := 4) (v := .int v_size) hx hb hts i_Tape hown hK hP 0 rfl rfl 3 (by decide) (hts (.fieldLink R_Tape 20 "PrivateQueries$Tape" "size" "I") k_6) (fun _ h9 => h9) rfl d_Tape_remove_24 ?_
    refine lv_iload_n hx hb d_Tape_remove_27 rfl (lv_at hl 1 rfl) ?_
    refine lv_isub hx hb d_Tape_remove_28 ?_
    refine va_copyi (ty := .int) hx hb (hml.trans hl.1.symm) hown (hts (.methodLink R_Tape 23 arraycopyName) k_10) (hts (.native arraycopyName) k_3) (hts (.static arraycopyName) k_4) (hts (.initialized "java/lang/System") k_5) hK hP hD hS 1 1 0 0 rfl rfl rfl rfl rfl (tp_rm1 hz_v_size c1 c2) (tp_rm2 hz_v_size c1 c2) (tp_rm3 hz_v_size c1 c2) (tp_rm4 hz_v_size c1 c2) (tp_rm5 hz_v_size c1 c2) (fun _ _ => rfl) (Nat.le_of_ble_eq_true rfl) (Nat.le_of_ble_eq_true rfl) d_Tape_remove_29 (fun H locs hP hD hS => ?_)
    have hP : va_P G.1 classes [(h, .inr (2, [.int v_p, .int v_q, .ref a_cells, .int v_size])), (a_cells, .inl (gI G, 3000, .inl (va_cpy f_cells f_cells x.toNatClampNeg (0 : Int32).toNatClampNeg (v_size - x).toNatClampNeg)))] H := hP
    have hD : va_D A [(h, .inr (2, [.int v_p, .int v_q, .ref a_cells, .int v_size])), (a_cells, .inl (gI G, 3000, .inl (va_cpy f_cells f_cells x.toNatClampNeg (0 : Int32).toNatClampNeg (v_size - x).toNatClampNeg)))] := hD
    refine lv_aload_n hx hb d_Tape_remove_32 rfl (lv_at hl 0 rfl) ?_
    refine lv_dup hx hb d_Tape_remove_33 rfl ?_
    refine va_get (D := G.1) (ci := 2) (C := R_Tape) (T := F_Tape) (N := 4) (v := .int v_size) hx hb hts i_Tape hown hK hP 0 rfl rfl 3 (by decide) (hts (.fieldLink R_Tape 20 "PrivateQueries$Tape" "size" "I") k_6) (fun _ h9 => h9) rfl d_Tape_remove_34 ?_
    refine lv_iload_n hx hb d_Tape_remove_37 rfl (lv_at hl 1 rfl) ?_
    refine lv_isub hx hb d_Tape_remove_38 ?_
    refine va_put (D := G.1) (ci := 2) (v := .int (v_size - x)) (ty := .int) (C := R_Tape) (T := F_Tape) (N := 4) hx hb hts i_Tape t_Tape t_Tape_ok n_Tape hown hK hP hD hS 0 rfl rfl 3 (by decide) (hts (.fieldLink R_Tape 20 "PrivateQueries$Tape" "size" "I") k_6) (fun _ h9 => h9) rfl (by decide +kernel) rfl rfl (Nat.le_of_ble_eq_true rfl) d_Tape_remove_39 (fun H locs hP hD hS => ?_)
    have hP : va_P G.1 classes [(h, .inr (2, [.int v_p, .int v_q, .ref a_cells, .int (v_size - x)])), (a_cells, .inl (gI G, 3000, .inl (va_cpy f_cells f_cells x.toNatClampNeg (0 : Int32).toNatClampNeg (v_size - x).toNatClampNeg)))] H := hP
    have hD : va_D A [(h, .inr (2, [.int v_p, .int v_q, .ref a_cells, .int (v_size - x)])), (a_cells, .inl (gI G, 3000, .inl (va_cpy f_cells f_cells x.toNatClampNeg (0 : Int32).toNatClampNeg (v_size - x).toNatClampNeg)))] := hD
    exact ly_vret hx hb hr hlocks hP hD hS d_Tape_remove_42 rfl (by rw [s_Tape_remove, if_neg c1, if_pos c2])
  exact ly_vret hx hb hr hlocks hP hD hS d_Tape_remove_12 rfl (by rw [s_Tape_remove, if_neg c1, if_neg c2])

set_option maxHeartbeats 4000000 in
set_option maxRecDepth 100000 in
theorem c_Tape_blockNoise (l : Launch) (G : GG) (h : Nat) (a_cells : Nat) (v_p : Int32) (v_q : Int32) (f_cells : Nat → Int32) (v_size : Int32) (x : Int32) (z : Int32) (hz_v_size : up v_size 3000) (hz_z : z.toInt ≤ 1000) : Det l G y_Tape_blockNoise w_Tape_blockNoise (rmD 1) 0 0 [.ref h, .int x, .int z] [(h, .inr (2, [.int v_p, .int v_q, .ref a_cells, .int v_size])), (a_cells, .inl (gI G, 3000, .inl f_cells))] (some (.int (s_Tape_blockNoise v_p v_q f_cells v_size x z))) [(h, .inr (2, [.int v_p, .int v_q, .ref a_cells, .int v_size])), (a_cells, .inl (gI G, 3000, .inl f_cells))] := by
  refine Det.of (cc := b_Tape_blockNoise) (maxL := 7) (ret := (some .int)) (by decide) rfl (Nat.le_of_ble_eq_true rfl) ?_
  intro p e s m args below meth c A ls hx hb hr hml hown hts hlocks hin hA hK hZ hP hD hS hl
  have hts : ∀ w ∈ wG, w.before args s = true := fun w h => hts w (List.mem_cons_of_mem _ h)
  have hown : s.vm.findClass R_Tape = some m.cls := hown
  have loop : ∀ (n : Nat) (u3 : Int32) (u4 : Int32) (k : Int32) (i : Int32), (z.toInt - i.toInt + 1).toNat < n → ∀ (H : Heap) (locs : List Loc) (ls : Array Slot), va_P G.1 classes [(h, .inr (2, [.int v_p, .int v_q, .ref a_cells, .int v_size])), (a_cells, .inl (gI G, 3000, .inl f_cells))] H → va_D A [(h, .inr (2, [.int v_p, .int v_q, .ref a_cells, .int v_size])), (a_cells, .inl (gI G, 3000, .inl f_cells))] → va_S A s.heap H locs → lv_has ls 7 [(6, .int i), (5, .int k), (4, .int u4), (3, .int u3), (0, .ref h), (1, .int x), (2, .int z)] → W p l e (rmD 1) s m args below meth c H locs 0 0 (MQ below (ly_Q G A (some (.int (lp_Tape_blockNoise v_p v_q f_cells v_size x z n u3 u4 k i))) [(h, .inr (2, [.int v_p, .int v_q, .ref a_cells, .int v_size])), (a_cells, .inl (gI G, 3000, .inl f_cells))]) args s 0 0 A) (F0 m 36 ls []) := by
    intro n
    induction n with
    | zero => intro u3 u4 k i  hmu; exact absurd hmu (Nat.not_lt_zero _)
    | succ n ih =>
      intro u3 u4 k i  hmu H locs ls hP hD hS hl
      refine lv_iload hx hb d_Tape_blockNoise_36 (lv_at hl 0 rfl) ?_
      refine lv_iload_n hx hb d_Tape_blockNoise_38 rfl (lv_at hl 6 rfl) ?_
      refine lv_icmp_gt (tgt := 76) hx hb d_Tape_blockNoise_39 (by decide) (fun c1 => ?_) (fun c1 => ?_)
      · skip
        refine lv_iload hx hb d_Tape_blockNoise_76 (lv_at hl 2 rfl) ?_
        refine lv_iload_n hx hb d_Tape_blockNoise_78 rfl (lv_at hl 3 rfl) ?_
        refine lv_aload_n hx hb d_Tape_blockNoise_79 rfl (lv_at hl 4 rfl) ?_
        refine va_get (D := G.1) (ci := 2) (C := R_Tape) (T := F_Tape) (N := 4) (v := .int v_p) hx hb hts i_Tape hown hK hP 0 rfl rfl 0 (by decide) (hts (.fieldLink R_Tape 7 "PrivateQueries$Tape" "p" "I") k_8) (fun _ h9 => h9) rfl d_Tape_blockNoise_80 ?_
        refine lv_aload_n hx hb d_Tape_blockNoise_83 rfl (lv_at hl 4 rfl) ?_
        refine va_get (D := G.1) (ci := 2) (C := R_Tape) (T := F_Tape) (N := 4) (v := .int v_q) hx hb hts i_Tape hown hK hP 0 rfl rfl 1 (by decide) (hts (.fieldLink R_Tape 13 "PrivateQueries$Tape" "q" "I") k_7) (fun _ h9 => h9) rfl d_Tape_blockNoise_84 ?_
        refine lv_imul hx hb d_Tape_blockNoise_87 ?_
        refine lv_iadd hx hb d_Tape_blockNoise_88 ?_
        refine lv_icmp_ge (tgt := 97) hx hb d_Tape_blockNoise_89 (by decide) (fun c2 => ?_) (fun c2 => ?_)
        · skip
          refine lv_iload hx hb d_Tape_blockNoise_97 (lv_at hl 1 rfl) ?_
          refine lv_ineg hx hb d_Tape_blockNoise_99 ?_
          exact ly_iret hx hb hr hlocks hP hD hS d_Tape_blockNoise_100 (by rw [lp_Tape_blockNoise, if_pos c1, if_pos c2]) rfl
        refine lv_iload hx hb d_Tape_blockNoise_92 (lv_at hl 1 rfl) ?_
        refine lv_goto (tgt := 100) hx hb d_Tape_blockNoise_94 (by decide) ?_
        exact ly_iret hx hb hr hlocks hP hD hS d_Tape_blockNoise_100 (by rw [lp_Tape_blockNoise, if_pos c1, if_neg c2]) rfl
      refine lv_aload_n hx hb d_Tape_blockNoise_42 rfl (lv_at hl 4 rfl) ?_
      refine lv_iload_n hx hb d_Tape_blockNoise_43 rfl (lv_at hl 5 rfl) ?_
      refine lv_iload hx hb d_Tape_blockNoise_44 (lv_at hl 0 rfl) ?_
      refine lv_iadd hx hb d_Tape_blockNoise_46 ?_
      obtain ⟨r1, hr1⟩ : ∃ r, (s_Tape_at f_cells v_size (x + i)) = r := ⟨_, rfl⟩
      have hC_r1 := (c_Tape_at l G h a_cells v_p v_q f_cells v_size (x + i) hz_v_size)
      rw [hr1] at hC_r1
      refine ly_callV (rest := []) (wf := [(h, .inr (2, [.int v_p, .int v_q, .ref a_cells, .int v_size])), (a_cells, .inl (gI G, 3000, .inl f_cells))]) ⟨hx, hb, hml, hown, hts⟩ hA hK hZ hP hD hS hC_r1 (cwV 1 hts g_Tape_29 rfl rfl rfl (by decide +kernel) ⟨Nat.le_of_ble_eq_true rfl, Nat.le_of_ble_eq_true rfl⟩) (ci := 2) (q0 := 0) rfl rfl rfl [0, 1] rfl (by decide) rfl rfl rfl hl.1 rfl (Nat.le_of_ble_eq_true rfl) d_Tape_blockNoise_47 ⟨Nat.le_of_ble_eq_true rfl, Nat.le_of_ble_eq_true rfl⟩ (st1 := [.int r1]) (c1 := 0) (s1 := 0) rfl rfl rfl (fun H locs hP hD hS => ?_)
      refine lv_aload_n hx hb d_Tape_blockNoise_50 rfl (lv_at hl 4 rfl) ?_
      refine va_get (D := G.1) (ci := 2) (C := R_Tape) (T := F_Tape) (N := 4) (v := .int v_p) hx hb hts i_Tape hown hK hP 0 rfl rfl 0 (by decide) (hts (.fieldLink R_Tape 7 "PrivateQueries$Tape" "p" "I") k_8) (fun _ h9 => h9) rfl d_Tape_blockNoise_51 ?_
      refine lv_aload_n hx hb d_Tape_blockNoise_54 rfl (lv_at hl 4 rfl) ?_
      refine va_get (D := G.1) (ci := 2) (C := R_Tape) (T := F_Tape) (N := 4) (v := .int v_p) hx hb hts i_Tape hown hK hP 0 rfl rfl 0 (by decide) (hts (.fieldLink R_Tape 7 "PrivateQueries$Tape" "p" "I") k_8) (fun _ h9 => h9) rfl d_Tape_blockNoise_55 ?_
      refine lv_aload_n hx hb d_Tape_blockNoise_58 rfl (lv_at hl 4 rfl) ?_
      refine va_get (D := G.1) (ci := 2) (C := R_Tape) (T := F_Tape) (N := 4) (v := .int v_q) hx hb hts i_Tape hown hK hP 0 rfl rfl 1 (by decide) (hts (.fieldLink R_Tape 13 "PrivateQueries$Tape" "q" "I") k_7) (fun _ h9 => h9) rfl d_Tape_blockNoise_59 ?_
      refine lv_iadd hx hb d_Tape_blockNoise_62 ?_
      refine lv_imul hx hb d_Tape_blockNoise_63 ?_
      refine lv_icmp_ge (tgt := 76) hx hb d_Tape_blockNoise_64 (by decide) (fun c3 => ?_) (fun c3 => ?_)
      · skip
        refine lv_iload hx hb d_Tape_blockNoise_76 (lv_at hl 2 rfl) ?_
        refine lv_iload_n hx hb d_Tape_blockNoise_78 rfl (lv_at hl 3 rfl) ?_
        refine lv_aload_n hx hb d_Tape_blockNoise_79 rfl (lv_at hl 4 rfl) ?_
        refine va_get (D := G.1) (ci := 2) (C := R_Tape) (T := F_Tape) (N := 4) (v := .int v_p) hx hb hts i_Tape hown hK hP 0 rfl rfl 0 (by decide) (hts (.fieldLink R_Tape 7 "PrivateQueries$Tape" "p" "I") k_8) (fun _ h9 => h9) rfl d_Tape_blockNoise_80 ?_
        refine lv_aload_n hx hb d_Tape_blockNoise_83 rfl (lv_at hl 4 rfl) ?_
        refine va_get (D := G.1) (ci := 2) (C := R_Tape) (T := F_Tape) (N := 4) (v := .int v_q) hx hb hts i_Tape hown hK hP 0 rfl rfl 1 (by decide) (hts (.fieldLink R_Tape 13 "PrivateQueries$Tape" "q" "I") k_7) (fun _ h9 => h9) rfl d_Tape_blockNoise_84 ?_
        refine lv_imul hx hb d_Tape_blockNoise_87 ?_
        refine lv_iadd hx hb d_Tape_blockNoise_88 ?_
        refine lv_icmp_ge (tgt := 97) hx hb d_Tape_blockNoise_89 (by decide) (fun c4 => ?_) (fun c4 => ?_)
        · skip
          refine lv_iload hx hb d_Tape_blockNoise_97 (lv_at hl 1 rfl) ?_
          refine lv_ineg hx hb d_Tape_blockNoise_99 ?_
          exact ly_iret hx hb hr hlocks hP hD hS d_Tape_blockNoise_100 (by rw [lp_Tape_blockNoise] <;> simp only [hr1] <;> rw [if_neg c1, if_pos c3, if_pos c4]) rfl
        refine lv_iload hx hb d_Tape_blockNoise_92 (lv_at hl 1 rfl) ?_
        refine lv_goto (tgt := 100) hx hb d_Tape_blockNoise_94 (by decide) ?_
        exact ly_iret hx hb hr hlocks hP hD hS d_Tape_blockNoise_100 (by rw [lp_Tape_blockNoise] <;> simp only [hr1] <;> rw [if_neg c1, if_pos c3, if_neg c4]) rfl
      refine lv_iinc (v := k + 1) (lv' := [(5, .int (k + 1)), (6, .int i), (4, .int u4), (3, .int u3), (0, .ref h), (1, .int x), (2, .int z)]) hx hb d_Tape_blockNoise_67 hl (k := 1) rfl (by rfl) (by decide) rfl (fun ls hl => ?_)
      refine lv_iinc (v := i + 1) (lv' := [(6, .int (i + 1)), (5, .int (k + 1)), (4, .int u4), (3, .int u3), (0, .ref h), (1, .int x), (2, .int z)]) hx hb d_Tape_blockNoise_70 hl (k := 1) rfl (by rfl) (by decide) rfl (fun ls hl => ?_)
      refine lv_goto (tgt := 36) hx hb d_Tape_blockNoise_73 (by decide) ?_
      have e_ : lp_Tape_blockNoise v_p v_q f_cells v_size x z (n + 1) u3 u4 k i = lp_Tape_blockNoise v_p v_q f_cells v_size x z n u3 u4 (k + 1) (i + 1) := (by rw [lp_Tape_blockNoise] <;> simp only [hr1] <;> rw [if_neg c1, if_neg c3])
      rw [e_]
      exact ih u3 u4 (k + 1) (i + 1) (mu_step (mu_up2 c1 hz_z) hmu) _ _ _ hP hD hS (lv_sub hl [0, 1, 2, 3, 4, 5, 6] rfl)
  have hl : lv_has ls 7 [(0, .ref h), (1, .int x), (2, .int z)] := hl
  refine lv_aload_n hx hb d_Tape_blockNoise_0 rfl (lv_at hl 0 rfl) ?_
  refine va_get (D := G.1) (ci := 2) (C := R_Tape) (T := F_Tape) (N := 4) (v := .int v_q) hx hb hts i_Tape hown hK hP 0 rfl rfl 1 (by decide) (hts (.fieldLink R_Tape 13 "PrivateQueries$Tape" "q" "I") k_7) (fun _ h9 => h9) rfl d_Tape_blockNoise_1 ?_
  refine lv_aload_n hx hb d_Tape_blockNoise_4 rfl (lv_at hl 0 rfl) ?_
  refine va_get (D := G.1) (ci := 2) (C := R_Tape) (T := F_Tape) (N := 4) (v := .int v_q) hx hb hts i_Tape hown hK hP 0 rfl rfl 1 (by decide) (hts (.fieldLink R_Tape 13 "PrivateQueries$Tape" "q" "I") k_7) (fun _ h9 => h9) rfl d_Tape_blockNoise_5 ?_
  refine lv_aload_n hx hb d_Tape_blockNoise_8 rfl (lv_at hl 0 rfl) ?_
  refine va_get (D := G.1) (ci := 2) (C := R_Tape) (T := F_Tape) (N := 4) (v := .int v_p) hx hb hts i_Tape hown hK hP 0 rfl rfl 0 (by decide) (hts (.fieldLink R_Tape 7 "PrivateQueries$Tape" "p" "I") k_8) (fun _ h9 => h9) rfl d_Tape_blockNoise_9 ?_
  refine lv_isub hx hb d_Tape_blockNoise_12 ?_
  refine lv_imul hx hb d_Tape_blockNoise_13 ?_
  refine lv_istore_n (lv' := [(3, .int (v_q * (v_q - v_p))), (0, .ref h), (1, .int x), (2, .int z)]) hx hb d_Tape_blockNoise_14 rfl hl (by decide) rfl (fun ls hl => ?_)
  refine lv_aload_n hx hb d_Tape_blockNoise_15 rfl (lv_at hl 1 rfl) ?_
  refine lv_iload_n hx hb d_Tape_blockNoise_16 rfl (lv_at hl 2 rfl) ?_
  obtain ⟨r2, hr2⟩ : ∃ r, (s_Tape_at f_cells v_size x) = r := ⟨_, rfl⟩
  have hC_r2 := (c_Tape_at l G h a_cells v_p v_q f_cells v_size x hz_v_size)
  rw [hr2] at hC_r2
  refine ly_callV (rest := []) (wf := [(h, .inr (2, [.int v_p, .int v_q, .ref a_cells, .int v_size])), (a_cells, .inl (gI G, 3000, .inl f_cells))]) ⟨hx, hb, hml, hown, hts⟩ hA hK hZ hP hD hS hC_r2 (cwV 1 hts g_Tape_29 rfl rfl rfl (by decide +kernel) ⟨Nat.le_of_ble_eq_true rfl, Nat.le_of_ble_eq_true rfl⟩) (ci := 2) (q0 := 0) rfl rfl rfl [0, 1] rfl (by decide) rfl rfl rfl hl.1 rfl (Nat.le_of_ble_eq_true rfl) d_Tape_blockNoise_17 ⟨Nat.le_of_ble_eq_true rfl, Nat.le_of_ble_eq_true rfl⟩ (st1 := [.int r2]) (c1 := 0) (s1 := 0) rfl rfl rfl (fun H locs hP hD hS => ?_)
  refine lv_istore (lv' := [(4, .int r2), (3, .int (v_q * (v_q - v_p))), (0, .ref h), (1, .int x), (2, .int z)]) hx hb d_Tape_blockNoise_20 hl (by decide) rfl (fun ls hl => ?_)
  refine lv_iload hx hb d_Tape_blockNoise_22 (lv_at hl 0 rfl) ?_
  refine lv_iload_n hx hb d_Tape_blockNoise_24 rfl (lv_at hl 1 rfl) ?_
  refine lv_icmp_ge (tgt := 30) hx hb d_Tape_blockNoise_25 (by decide) (fun c1 => ?_) (fun c1 => ?_)
  · skip
    refine lv_iconst (v := 1) hx hb d_Tape_blockNoise_30 (by decide) ?_
    refine lv_istore (lv' := [(5, .int 1), (4, .int r2), (3, .int (v_q * (v_q - v_p))), (0, .ref h), (1, .int x), (2, .int z)]) hx hb d_Tape_blockNoise_31 hl (by decide) rfl (fun ls hl => ?_)
    refine lv_iconst (v := 1) hx hb d_Tape_blockNoise_33 (by decide) ?_
    refine lv_istore (lv' := [(6, .int 1), (5, .int 1), (4, .int r2), (3, .int (v_q * (v_q - v_p))), (0, .ref h), (1, .int x), (2, .int z)]) hx hb d_Tape_blockNoise_34 hl (by decide) rfl (fun ls hl => ?_)
    have e_ : s_Tape_blockNoise v_p v_q f_cells v_size x z = (lp_Tape_blockNoise v_p v_q f_cells v_size x z (((z.toInt - (1 : Int32).toInt + 1).toNat) + 1) (v_q * (v_q - v_p)) r2 (1 : Int32) (1 : Int32)) := (by rw [s_Tape_blockNoise] <;> simp only [hr2] <;> rw [if_pos c1])
    rw [e_]
    exact loop (((z.toInt - (1 : Int32).toInt + 1).toNat) + 1) (v_q * (v_q - v_p)) r2 (1 : Int32) (1 : Int32) (Nat.lt_succ_self _) _ _ _ hP hD hS (lv_sub hl [0, 1, 2, 3, 4, 5, 6] rfl)
  refine lv_iconst (v := 0) hx hb d_Tape_blockNoise_28 (by decide) ?_
  exact ly_iret hx hb hr hlocks hP hD hS d_Tape_blockNoise_29 (by rw [s_Tape_blockNoise] <;> simp only [hr2] <;> rw [if_neg c1]) rfl
