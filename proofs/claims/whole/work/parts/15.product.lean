theorem d_Prod_startAtOne_0 : decode b_Prod_startAtOne 0 = .ok (.aload_n 0, 1) := by decide +kernel
theorem d_Prod_startAtOne_1 : decode b_Prod_startAtOne 1 = .ok (.getfield 9, 3) := by decide +kernel
theorem d_Prod_startAtOne_4 : decode b_Prod_startAtOne 4 = .ok (.iconst 0, 1) := by decide +kernel
theorem d_Prod_startAtOne_5 : decode b_Prod_startAtOne 5 = .ok (.iconst 1, 1) := by decide +kernel
theorem d_Prod_startAtOne_6 : decode b_Prod_startAtOne 6 = .ok (.iastore, 1) := by decide +kernel
theorem d_Prod_startAtOne_7 : decode b_Prod_startAtOne 7 = .ok (.aload_n 0, 1) := by decide +kernel
theorem d_Prod_startAtOne_8 : decode b_Prod_startAtOne 8 = .ok (.iconst 1, 1) := by decide +kernel
theorem d_Prod_startAtOne_9 : decode b_Prod_startAtOne 9 = .ok (.putfield 13, 3) := by decide +kernel
theorem d_Prod_startAtOne_12 : decode b_Prod_startAtOne 12 = .ok (.return_, 1) := by decide +kernel
theorem d_Prod_timesOnce_0 : decode b_Prod_timesOnce 0 = .ok (.iconst 0, 1) := by decide +kernel
theorem d_Prod_timesOnce_1 : decode b_Prod_timesOnce 1 = .ok (.istore_n 2, 1) := by decide +kernel
theorem d_Prod_timesOnce_2 : decode b_Prod_timesOnce 2 = .ok (.iconst 0, 1) := by decide +kernel
theorem d_Prod_timesOnce_3 : decode b_Prod_timesOnce 3 = .ok (.istore_n 3, 1) := by decide +kernel
theorem d_Prod_timesOnce_4 : decode b_Prod_timesOnce 4 = .ok (.iload_n 3, 1) := by decide +kernel
theorem d_Prod_timesOnce_5 : decode b_Prod_timesOnce 5 = .ok (.aload_n 0, 1) := by decide +kernel
theorem d_Prod_timesOnce_6 : decode b_Prod_timesOnce 6 = .ok (.getfield 9, 3) := by decide +kernel
theorem d_Prod_timesOnce_9 : decode b_Prod_timesOnce 9 = .ok (.arraylength, 1) := by decide +kernel
theorem d_Prod_timesOnce_10 : decode b_Prod_timesOnce 10 = .ok (.if_icmp .ge 76, 3) := by decide +kernel
theorem d_Prod_timesOnce_13 : decode b_Prod_timesOnce 13 = .ok (.iload_n 3, 1) := by decide +kernel
theorem d_Prod_timesOnce_14 : decode b_Prod_timesOnce 14 = .ok (.aload_n 0, 1) := by decide +kernel
theorem d_Prod_timesOnce_15 : decode b_Prod_timesOnce 15 = .ok (.getfield 13, 3) := by decide +kernel
theorem d_Prod_timesOnce_18 : decode b_Prod_timesOnce 18 = .ok (.if_icmp .lt 7, 3) := by decide +kernel
theorem d_Prod_timesOnce_21 : decode b_Prod_timesOnce 21 = .ok (.iload_n 2, 1) := by decide +kernel
theorem d_Prod_timesOnce_22 : decode b_Prod_timesOnce 22 = .ok (.ifCond .le 64, 3) := by decide +kernel
theorem d_Prod_timesOnce_25 : decode b_Prod_timesOnce 25 = .ok (.iload_n 3, 1) := by decide +kernel
theorem d_Prod_timesOnce_26 : decode b_Prod_timesOnce 26 = .ok (.aload_n 0, 1) := by decide +kernel
theorem d_Prod_timesOnce_27 : decode b_Prod_timesOnce 27 = .ok (.getfield 13, 3) := by decide +kernel
theorem d_Prod_timesOnce_30 : decode b_Prod_timesOnce 30 = .ok (.if_icmp .ge 14, 3) := by decide +kernel
theorem d_Prod_timesOnce_33 : decode b_Prod_timesOnce 33 = .ok (.aload_n 0, 1) := by decide +kernel
theorem d_Prod_timesOnce_34 : decode b_Prod_timesOnce 34 = .ok (.getfield 9, 3) := by decide +kernel
theorem d_Prod_timesOnce_37 : decode b_Prod_timesOnce 37 = .ok (.iload_n 3, 1) := by decide +kernel
theorem d_Prod_timesOnce_38 : decode b_Prod_timesOnce 38 = .ok (.iaload, 1) := by decide +kernel
theorem d_Prod_timesOnce_39 : decode b_Prod_timesOnce 39 = .ok (.iload_n 1, 1) := by decide +kernel
theorem d_Prod_timesOnce_40 : decode b_Prod_timesOnce 40 = .ok (.imul, 1) := by decide +kernel
theorem d_Prod_timesOnce_41 : decode b_Prod_timesOnce 41 = .ok (.goto 4, 3) := by decide +kernel
theorem d_Prod_timesOnce_44 : decode b_Prod_timesOnce 44 = .ok (.iconst 0, 1) := by decide +kernel
theorem d_Prod_timesOnce_45 : decode b_Prod_timesOnce 45 = .ok (.iload_n 2, 1) := by decide +kernel
theorem d_Prod_timesOnce_46 : decode b_Prod_timesOnce 46 = .ok (.iadd, 1) := by decide +kernel
theorem d_Prod_timesOnce_47 : decode b_Prod_timesOnce 47 = .ok (.istore 4, 2) := by decide +kernel
theorem d_Prod_timesOnce_49 : decode b_Prod_timesOnce 49 = .ok (.aload_n 0, 1) := by decide +kernel
theorem d_Prod_timesOnce_50 : decode b_Prod_timesOnce 50 = .ok (.getfield 9, 3) := by decide +kernel
theorem d_Prod_timesOnce_53 : decode b_Prod_timesOnce 53 = .ok (.iload_n 3, 1) := by decide +kernel
theorem d_Prod_timesOnce_54 : decode b_Prod_timesOnce 54 = .ok (.iload 4, 2) := by decide +kernel
theorem d_Prod_timesOnce_56 : decode b_Prod_timesOnce 56 = .ok (.bipush 10, 2) := by decide +kernel
theorem d_Prod_timesOnce_58 : decode b_Prod_timesOnce 58 = .ok (.irem, 1) := by decide +kernel
theorem d_Prod_timesOnce_59 : decode b_Prod_timesOnce 59 = .ok (.iastore, 1) := by decide +kernel
theorem d_Prod_timesOnce_60 : decode b_Prod_timesOnce 60 = .ok (.iload 4, 2) := by decide +kernel
theorem d_Prod_timesOnce_62 : decode b_Prod_timesOnce 62 = .ok (.bipush 10, 2) := by decide +kernel
theorem d_Prod_timesOnce_64 : decode b_Prod_timesOnce 64 = .ok (.idiv, 1) := by decide +kernel
theorem d_Prod_timesOnce_65 : decode b_Prod_timesOnce 65 = .ok (.istore_n 2, 1) := by decide +kernel
theorem d_Prod_timesOnce_66 : decode b_Prod_timesOnce 66 = .ok (.aload_n 0, 1) := by decide +kernel
theorem d_Prod_timesOnce_67 : decode b_Prod_timesOnce 67 = .ok (.aload_n 0, 1) := by decide +kernel
theorem d_Prod_timesOnce_68 : decode b_Prod_timesOnce 68 = .ok (.getfield 13, 3) := by decide +kernel
theorem d_Prod_timesOnce_71 : decode b_Prod_timesOnce 71 = .ok (.iload_n 3, 1) := by decide +kernel
theorem d_Prod_timesOnce_72 : decode b_Prod_timesOnce 72 = .ok (.iconst 1, 1) := by decide +kernel
theorem d_Prod_timesOnce_73 : decode b_Prod_timesOnce 73 = .ok (.iadd, 1) := by decide +kernel
theorem d_Prod_timesOnce_74 : decode b_Prod_timesOnce 74 = .ok (.invokestatic 21, 3) := by decide +kernel
theorem d_Prod_timesOnce_77 : decode b_Prod_timesOnce 77 = .ok (.putfield 13, 3) := by decide +kernel
theorem d_Prod_timesOnce_80 : decode b_Prod_timesOnce 80 = .ok (.iinc 3 1, 3) := by decide +kernel
theorem d_Prod_timesOnce_83 : decode b_Prod_timesOnce 83 = .ok (.goto (-79), 3) := by decide +kernel
theorem d_Prod_timesOnce_86 : decode b_Prod_timesOnce 86 = .ok (.return_, 1) := by decide +kernel
theorem d_Prod_times_0 : decode b_Prod_times 0 = .ok (.iconst 0, 1) := by decide +kernel
theorem d_Prod_times_1 : decode b_Prod_times 1 = .ok (.istore_n 3, 1) := by decide +kernel
theorem d_Prod_times_2 : decode b_Prod_times 2 = .ok (.iload_n 3, 1) := by decide +kernel
theorem d_Prod_times_3 : decode b_Prod_times 3 = .ok (.iload_n 2, 1) := by decide +kernel
theorem d_Prod_times_4 : decode b_Prod_times 4 = .ok (.if_icmp .ge 14, 3) := by decide +kernel
theorem d_Prod_times_7 : decode b_Prod_times 7 = .ok (.aload_n 0, 1) := by decide +kernel
theorem d_Prod_times_8 : decode b_Prod_times 8 = .ok (.iload_n 1, 1) := by decide +kernel
theorem d_Prod_times_9 : decode b_Prod_times 9 = .ok (.invokevirtual 17, 3) := by decide +kernel
theorem d_Prod_times_12 : decode b_Prod_times 12 = .ok (.iinc 3 1, 3) := by decide +kernel
theorem d_Prod_times_15 : decode b_Prod_times 15 = .ok (.goto (-13), 3) := by decide +kernel
theorem d_Prod_times_18 : decode b_Prod_times 18 = .ok (.return_, 1) := by decide +kernel
theorem d_Prod_writeInto_0 : decode b_Prod_writeInto 0 = .ok (.aload_n 0, 1) := by decide +kernel
theorem d_Prod_writeInto_1 : decode b_Prod_writeInto 1 = .ok (.getfield 13, 3) := by decide +kernel
theorem d_Prod_writeInto_4 : decode b_Prod_writeInto 4 = .ok (.aload_n 0, 1) := by decide +kernel
theorem d_Prod_writeInto_5 : decode b_Prod_writeInto 5 = .ok (.getfield 9, 3) := by decide +kernel
theorem d_Prod_writeInto_8 : decode b_Prod_writeInto 8 = .ok (.arraylength, 1) := by decide +kernel
theorem d_Prod_writeInto_9 : decode b_Prod_writeInto 9 = .ok (.invokestatic 27, 3) := by decide +kernel
theorem d_Prod_writeInto_12 : decode b_Prod_writeInto 12 = .ok (.iconst 1, 1) := by decide +kernel
theorem d_Prod_writeInto_13 : decode b_Prod_writeInto 13 = .ok (.isub, 1) := by decide +kernel
theorem d_Prod_writeInto_14 : decode b_Prod_writeInto 14 = .ok (.istore_n 2, 1) := by decide +kernel
theorem d_Prod_writeInto_15 : decode b_Prod_writeInto 15 = .ok (.iload_n 2, 1) := by decide +kernel
theorem d_Prod_writeInto_16 : decode b_Prod_writeInto 16 = .ok (.ifCond .lt 23, 3) := by decide +kernel
theorem d_Prod_writeInto_19 : decode b_Prod_writeInto 19 = .ok (.aload_n 1, 1) := by decide +kernel
theorem d_Prod_writeInto_20 : decode b_Prod_writeInto 20 = .ok (.bipush 48, 2) := by decide +kernel
theorem d_Prod_writeInto_22 : decode b_Prod_writeInto 22 = .ok (.aload_n 0, 1) := by decide +kernel
theorem d_Prod_writeInto_23 : decode b_Prod_writeInto 23 = .ok (.getfield 9, 3) := by decide +kernel
theorem d_Prod_writeInto_26 : decode b_Prod_writeInto 26 = .ok (.iload_n 2, 1) := by decide +kernel
theorem d_Prod_writeInto_27 : decode b_Prod_writeInto 27 = .ok (.iaload, 1) := by decide +kernel
theorem d_Prod_writeInto_28 : decode b_Prod_writeInto 28 = .ok (.iadd, 1) := by decide +kernel
theorem d_Prod_writeInto_29 : decode b_Prod_writeInto 29 = .ok (.i2c, 1) := by decide +kernel
theorem d_Prod_writeInto_30 : decode b_Prod_writeInto 30 = .ok (.invokevirtual 30, 3) := by decide +kernel
theorem d_Prod_writeInto_33 : decode b_Prod_writeInto 33 = .ok (.iinc 2 (-1), 3) := by decide +kernel
theorem d_Prod_writeInto_36 : decode b_Prod_writeInto 36 = .ok (.goto (-21), 3) := by decide +kernel
theorem d_Prod_writeInto_39 : decode b_Prod_writeInto 39 = .ok (.return_, 1) := by decide +kernel
theorem k_48 : (.fieldLink R_Prod 9 "PrivateQueries$Product" "digits" "[I" : Cond) ∈ wG := wGm 201 (by decide +kernel) (by decide +kernel)
theorem k_49 : (.fieldLink R_Prod 13 "PrivateQueries$Product" "size" "I" : Cond) ∈ wG := wGm 202 (by decide +kernel) (by decide +kernel)
theorem k_50 : (.methodLink R_Prod 21 Lib.Math.max.name : Cond) ∈ wG := wGm 937 (by decide +kernel) (by decide +kernel)
theorem k_51 : (.static Lib.Math.max.name : Cond) ∈ wG := wGm 120 (by decide +kernel) (by decide +kernel)
theorem k_52 : (.initialized "java/lang/Math" : Cond) ∈ wG := wGm 86 (by decide +kernel) (by decide +kernel)
theorem k_53 : (.code Lib.Math.max.name Lib.Math.max.code 2 (some .int) : Cond) ∈ wG := wGm 121 (by decide +kernel) (by decide +kernel)
theorem k_54 : (.methodLink R_Prod 17 y_Prod_timesOnce : Cond) ∈ wG := wGm 933 (by decide +kernel) (by decide +kernel)
theorem k_55 : (.instanceMethod y_Prod_timesOnce : Cond) ∈ wG := wGm 935 (by decide +kernel) (by decide +kernel)
theorem k_56 : (.selects R_Prod y_Prod_timesOnce y_Prod_timesOnce : Cond) ∈ wG := wGm 33 (by decide +kernel) (by decide +kernel)
theorem k_57 : (.initialized R_Prod : Cond) ∈ wG := wGm 92 (by decide +kernel) (by decide +kernel)
theorem k_58 : (.code y_Prod_timesOnce b_Prod_timesOnce 5 none : Cond) ∈ wG := wGm 936 (by decide +kernel) (by decide +kernel)
theorem k_59 : (.methodLink R_Prod 27 Lib.Math.min.name : Cond) ∈ wG := wGm 942 (by decide +kernel) (by decide +kernel)
theorem k_60 : (.static Lib.Math.min.name : Cond) ∈ wG := wGm 117 (by decide +kernel) (by decide +kernel)
theorem k_61 : (.code Lib.Math.min.name Lib.Math.min.code 2 (some .int) : Cond) ∈ wG := wGm 118 (by decide +kernel) (by decide +kernel)
theorem k_62 : (.methodLink R_Prod 30 y_Out_add : Cond) ∈ wG := wGm 943 (by decide +kernel) (by decide +kernel)
theorem g_Prod_17 : GoodIn wG (wsV R_Prod 17 R_Prod y_Prod_timesOnce w_Prod_timesOnce) := wGa (fun w hw => by
  rcases List.mem_cons.mp hw with e | hw
  · exact e ▸ k_54
  rcases List.mem_cons.mp hw with e | hw
  · exact e ▸ k_55
  rcases List.mem_cons.mp hw with e | hw
  · exact e ▸ k_56
  rcases List.mem_cons.mp hw with e | hw
  · exact e ▸ k_57
  · exact absurd hw List.not_mem_nil) (wGc k_58)
theorem g_Prod_30 : GoodIn wG (wsV R_Prod 30 R_Out y_Out_add w_Out_add) := wGa (fun w hw => by
  rcases List.mem_cons.mp hw with e | hw
  · exact e ▸ k_62
  rcases List.mem_cons.mp hw with e | hw
  · exact e ▸ k_44
  rcases List.mem_cons.mp hw with e | hw
  · exact e ▸ k_45
  rcases List.mem_cons.mp hw with e | hw
  · exact e ▸ k_46
  · exact absurd hw List.not_mem_nil) (wGc k_47)
set_option maxHeartbeats 4000000 in
set_option maxRecDepth 100000 in
theorem c_Prod_startAtOne (l : Launch) (G : GG) (h : Nat) (a_digits : Nat) (f_digits : Nat → Int32) (v_size : Int32) : Det l G y_Prod_startAtOne w_Prod_startAtOne (rmD 0) 0 0 [.ref h] [(h, .inr (6, [.ref a_digits, .int v_size])), (a_digits, .inl (gI G, 96, .inl f_digits))] none [(h, .inr (6, [.ref a_digits, .int 1])), (a_digits, .inl (gI G, 96, .inl (upd f_digits (0 : Int32).toNatClampNeg 1)))] := by
  refine Det.of (cc := b_Prod_startAtOne) (maxL := 1) (ret := none) (by decide) rfl (Nat.le_of_ble_eq_true rfl) ?_
  intro p e s m args below meth c A ls hx hb hr hml hown hts hlocks hin hA hK hZ hP hD hS hl
  have hts : ∀ w ∈ wG, w.before args s = true := fun w h => hts w (List.mem_cons_of_mem _ h)
  have hown : s.vm.findClass R_Prod = some m.cls := hown
  have hl : lv_has ls 1 [(0, .ref h)] := hl
  refine lv_aload_n hx hb d_Prod_startAtOne_0 rfl (lv_at hl 0 rfl) ?_
  refine va_get (D := G.1) (ci := 6) (C := R_Prod) (T := F_Prod) (N := 2) (v := .ref a_digits) hx hb hts i_Prod hown hK hP 0 rfl rfl 0 (by decide) (hts (.fieldLink R_Prod 9 "PrivateQueries$Product" "digits" "[I") k_48) (fun _ h9 => h9) rfl d_Prod_startAtOne_1 ?_
  refine lv_iconst (v := 0) hx hb d_Prod_startAtOne_4 (by decide) ?_
  refine lv_iconst (v := 1) hx hb d_Prod_startAtOne_5 (by decide) ?_
  refine va_iast hx hb hK hP hD hS 1 0 rfl rfl (ly_mk (by decide) (by decide)) d_Prod_startAtOne_6 (fun H locs hP hD hS => ?_)
  have hP : va_P G.1 classes [(h, .inr (6, [.ref a_digits, .int v_size])), (a_digits, .inl (gI G, 96, .inl (upd f_digits (0 : Int32).toNatClampNeg 1)))] H := hP
  have hD : va_D A [(h, .inr (6, [.ref a_digits, .int v_size])), (a_digits, .inl (gI G, 96, .inl (upd f_digits (0 : Int32).toNatClampNeg 1)))] := hD
  refine lv_aload_n hx hb d_Prod_startAtOne_7 rfl (lv_at hl 0 rfl) ?_
  refine lv_iconst (v := 1) hx hb d_Prod_startAtOne_8 (by decide) ?_
  refine va_put (D := G.1) (ci := 6) (v := .int 1) (ty := .int) (C := R_Prod) (T := F_Prod) (N := 2) hx hb hts i_Prod t_Prod t_Prod_ok n_Prod hown hK hP hD hS 0 rfl rfl 1 (by decide) (hts (.fieldLink R_Prod 13 "PrivateQueries$Product" "size" "I") k_49) (fun _ h9 => h9) rfl (by decide +kernel) rfl rfl (Nat.le_of_ble_eq_true rfl) d_Prod_startAtOne_9 (fun H locs hP hD hS => ?_)
  have hP : va_P G.1 classes [(h, .inr (6, [.ref a_digits, .int 1])), (a_digits, .inl (gI G, 96, .inl (upd f_digits (0 : Int32).toNatClampNeg 1)))] H := hP
  have hD : va_D A [(h, .inr (6, [.ref a_digits, .int 1])), (a_digits, .inl (gI G, 96, .inl (upd f_digits (0 : Int32).toNatClampNeg 1)))] := hD
  exact ly_vret hx hb hr hlocks hP hD hS d_Prod_startAtOne_12 rfl rfl

set_option maxHeartbeats 4000000 in
set_option maxRecDepth 100000 in
theorem c_Prod_timesOnce (l : Launch) (G : GG) (h : Nat) (a_digits : Nat) (f_digits : Nat → Int32) (v_size : Int32) (x : Int32) : Det l G y_Prod_timesOnce w_Prod_timesOnce (rmD 1) 0 0 [.ref h, .int x] [(h, .inr (6, [.ref a_digits, .int v_size])), (a_digits, .inl (gI G, 96, .inl f_digits))] none [(h, .inr (6, [.ref a_digits, .int (lp_Prod_timesOnce x (((96 - (0 : Int32).toInt).toNat) + 1) (0 : Int32) (0 : Int32) f_digits v_size).1])), (a_digits, .inl (gI G, 96, .inl (lp_Prod_timesOnce x (((96 - (0 : Int32).toInt).toNat) + 1) (0 : Int32) (0 : Int32) f_digits v_size).2))] := by
  refine Det.of (cc := b_Prod_timesOnce) (maxL := 5) (ret := none) (by decide) rfl (Nat.le_of_ble_eq_true rfl) ?_
  intro p e s m args below meth c A ls hx hb hr hml hown hts hlocks hin hA hK hZ hP hD hS hl
  have hts : ∀ w ∈ wG, w.before args s = true := fun w h => hts w (List.mem_cons_of_mem _ h)
  have hown : s.vm.findClass R_Prod = some m.cls := hown
  have loop : ∀ (n : Nat) (w : Int32) (i : Int32) (g : Nat → Int32) (k : Int32), up i 96 → (96 - i.toInt).toNat < n → ∀ (H : Heap) (locs : List Loc) (ls : Array Slot), va_P G.1 classes [(h, .inr (6, [.ref a_digits, .int k])), (a_digits, .inl (gI G, 96, .inl g))] H → va_D A [(h, .inr (6, [.ref a_digits, .int k])), (a_digits, .inl (gI G, 96, .inl g))] → va_S A s.heap H locs → lv_has ls 5 [(3, .int i), (2, .int w), (0, .ref h), (1, .int x)] → W p l e (rmD 1) s m args below meth c H locs 0 0 (MQ below (ly_Q G A none [(h, .inr (6, [.ref a_digits, .int (lp_Prod_timesOnce x n w i g k).1])), (a_digits, .inl (gI G, 96, .inl (lp_Prod_timesOnce x n w i g k).2))]) args s 0 0 A) (F0 m 4 ls []) := by
    intro n
    induction n with
    | zero => intro w i g k hi hmu; exact absurd hmu (Nat.not_lt_zero _)
    | succ n ih =>
      intro w i g k hi hmu H locs ls hP hD hS hl
      refine lv_iload_n hx hb d_Prod_timesOnce_4 rfl (lv_at hl 0 rfl) ?_
      refine lv_aload_n hx hb d_Prod_timesOnce_5 rfl (lv_at hl 2 rfl) ?_
      refine va_get (D := G.1) (ci := 6) (C := R_Prod) (T := F_Prod) (N := 2) (v := .ref a_digits) hx hb hts i_Prod hown hK hP 0 rfl rfl 0 (by decide) (hts (.fieldLink R_Prod 9 "PrivateQueries$Product" "digits" "[I") k_48) (fun _ h9 => h9) rfl d_Prod_timesOnce_6 ?_
      refine va_alen (v := 96) hx hb hK hP 1 0 rfl rfl (show Int32.ofNat 96 = 96 by decide) d_Prod_timesOnce_9 ?_
      refine lv_icmp_ge (tgt := 86) hx hb d_Prod_timesOnce_10 (by decide) (fun c1 => ?_) (fun c1 => ?_)
      · skip
        exact ly_vret hx hb hr hlocks hP hD hS d_Prod_timesOnce_86 rfl (by rw [lp_Prod_timesOnce, if_pos c1])
      refine lv_iload_n hx hb d_Prod_timesOnce_13 rfl (lv_at hl 0 rfl) ?_
      refine lv_aload_n hx hb d_Prod_timesOnce_14 rfl (lv_at hl 2 rfl) ?_
      refine va_get (D := G.1) (ci := 6) (C := R_Prod) (T := F_Prod) (N := 2) (v := .int k) hx hb hts i_Prod hown hK hP 0 rfl rfl 1 (by decide) (hts (.fieldLink R_Prod 13 "PrivateQueries$Product" "size" "I") k_49) (fun _ h9 => h9) rfl d_Prod_timesOnce_15 ?_
      refine lv_icmp_lt (tgt := 25) hx hb d_Prod_timesOnce_18 (by decide) (fun c2 => ?_) (fun c2 => ?_)
      · skip
        refine lv_iload_n hx hb d_Prod_timesOnce_25 rfl (lv_at hl 0 rfl) ?_
        refine lv_aload_n hx hb d_Prod_timesOnce_26 rfl (lv_at hl 2 rfl) ?_
        refine va_get (D := G.1) (ci := 6) (C := R_Prod) (T := F_Prod) (N := 2) (v := .int k) hx hb hts i_Prod hown hK hP 0 rfl rfl 1 (by decide) (hts (.fieldLink R_Prod 13 "PrivateQueries$Product" "size" "I") k_49) (fun _ h9 => h9) rfl d_Prod_timesOnce_27 ?_
        refine lv_icmp_ge (tgt := 44) hx hb d_Prod_timesOnce_30 (by decide) (fun c3 => ?_) (fun c3 => ?_)
        · skip
          refine lv_iconst (v := 0) hx hb d_Prod_timesOnce_44 (by decide) ?_
          refine lv_iload_n hx hb d_Prod_timesOnce_45 rfl (lv_at hl 1 rfl) ?_
          refine lv_iadd hx hb d_Prod_timesOnce_46 ?_
          refine lv_istore (lv' := [(4, .int (0 + w)), (3, .int i), (2, .int w), (0, .ref h), (1, .int x)]) hx hb d_Prod_timesOnce_47 hl (by decide) rfl (fun ls hl => ?_)
          refine lv_aload_n hx hb d_Prod_timesOnce_49 rfl (lv_at hl 3 rfl) ?_
          refine va_get (D := G.1) (ci := 6) (C := R_Prod) (T := F_Prod) (N := 2) (v := .ref a_digits) hx hb hts i_Prod hown hK hP 0 rfl rfl 0 (by decide) (hts (.fieldLink R_Prod 9 "PrivateQueries$Product" "digits" "[I") k_48) (fun _ h9 => h9) rfl d_Prod_timesOnce_50 ?_
          refine lv_iload_n hx hb d_Prod_timesOnce_53 rfl (lv_at hl 1 rfl) ?_
          refine lv_iload hx hb d_Prod_timesOnce_54 (lv_at hl 0 rfl) ?_
          refine lv_bipush (v := 10) hx hb d_Prod_timesOnce_56 (by decide) ?_
          refine lv_irem hx hb d_Prod_timesOnce_58 (by decide) ?_
          refine va_iast hx hb hK hP hD hS 1 0 rfl rfl (ly_mk hi.1 (ly_hi (by decide) c1)) d_Prod_timesOnce_59 (fun H locs hP hD hS => ?_)
          have hP : va_P G.1 classes [(h, .inr (6, [.ref a_digits, .int k])), (a_digits, .inl (gI G, 96, .inl (upd g i.toNatClampNeg ((0 + w) - (0 + w) / 10 * 10))))] H := hP
          have hD : va_D A [(h, .inr (6, [.ref a_digits, .int k])), (a_digits, .inl (gI G, 96, .inl (upd g i.toNatClampNeg ((0 + w) - (0 + w) / 10 * 10))))] := hD
          refine lv_iload hx hb d_Prod_timesOnce_60 (lv_at hl 0 rfl) ?_
          refine lv_bipush (v := 10) hx hb d_Prod_timesOnce_62 (by decide) ?_
          refine lv_idiv hx hb d_Prod_timesOnce_64 (by decide) ?_
          refine lv_istore_n (lv' := [(2, .int ((0 + w) / 10)), (4, .int (0 + w)), (3, .int i), (0, .ref h), (1, .int x)]) hx hb d_Prod_timesOnce_65 rfl hl (by decide) rfl (fun ls hl => ?_)
          refine lv_aload_n hx hb d_Prod_timesOnce_66 rfl (lv_at hl 3 rfl) ?_
          refine lv_aload_n hx hb d_Prod_timesOnce_67 rfl (lv_at hl 3 rfl) ?_
          refine va_get (D := G.1) (ci := 6) (C := R_Prod) (T := F_Prod) (N := 2) (v := .int k) hx hb hts i_Prod hown hK hP 0 rfl rfl 1 (by decide) (hts (.fieldLink R_Prod 13 "PrivateQueries$Product" "size" "I") k_49) (fun _ h9 => h9) rfl d_Prod_timesOnce_68 ?_
          refine lv_iload_n hx hb d_Prod_timesOnce_71 rfl (lv_at hl 2 rfl) ?_
          refine lv_iconst (v := 1) hx hb d_Prod_timesOnce_72 (by decide) ?_
          refine lv_iadd hx hb d_Prod_timesOnce_73 ?_
          refine va_mmax hx hb (hml.trans hl.1.symm) hown (hts (.methodLink R_Prod 21 Lib.Math.max.name) k_50) (hts (.static Lib.Math.max.name) k_51) (hts (.initialized "java/lang/Math") k_52) (hts (.code Lib.Math.max.name Lib.Math.max.code 2 (some .int)) k_53) (Nat.le_of_ble_eq_true rfl) (Nat.le_of_ble_eq_true rfl) (Nat.zero_le _) (Nat.zero_le _) d_Prod_timesOnce_74 ?_
          refine va_put (D := G.1) (ci := 6) (v := .int (if k < i + 1 then i + 1 else k)) (ty := .int) (C := R_Prod) (T := F_Prod) (N := 2) hx hb hts i_Prod t_Prod t_Prod_ok n_Prod hown hK hP hD hS 0 rfl rfl 1 (by decide) (hts (.fieldLink R_Prod 13 "PrivateQueries$Product" "size" "I") k_49) (fun _ h9 => h9) rfl (by decide +kernel) rfl rfl (Nat.le_of_ble_eq_true rfl) d_Prod_timesOnce_77 (fun H locs hP hD hS => ?_)
          have hP : va_P G.1 classes [(h, .inr (6, [.ref a_digits, .int (if k < i + 1 then i + 1 else k)])), (a_digits, .inl (gI G, 96, .inl (upd g i.toNatClampNeg ((0 + w) - (0 + w) / 10 * 10))))] H := hP
          have hD : va_D A [(h, .inr (6, [.ref a_digits, .int (if k < i + 1 then i + 1 else k)])), (a_digits, .inl (gI G, 96, .inl (upd g i.toNatClampNeg ((0 + w) - (0 + w) / 10 * 10))))] := hD
          refine lv_iinc (v := i + 1) (lv' := [(3, .int (i + 1)), (2, .int ((0 + w) / 10)), (4, .int (0 + w)), (0, .ref h), (1, .int x)]) hx hb d_Prod_timesOnce_80 hl (k := 2) rfl (by rfl) (by decide) rfl (fun ls hl => ?_)
          refine lv_goto (tgt := 4) hx hb d_Prod_timesOnce_83 (by decide) ?_
          have e_ : lp_Prod_timesOnce x (n + 1) w i g k = lp_Prod_timesOnce x n ((0 + w) / 10) (i + 1) (upd g i.toNatClampNeg ((0 + w) - (0 + w) / 10 * 10)) (if k < i + 1 then i + 1 else k) := (by rw [lp_Prod_timesOnce, if_neg c1, if_pos c2, if_pos c3])
          rw [e_]
          exact ih ((0 + w) / 10) (i + 1) (upd g i.toNatClampNeg ((0 + w) - (0 + w) / 10 * 10)) (if k < i + 1 then i + 1 else k) (up_add1 hi (by decide) c1) (mu_step (mu_96 c1) hmu) _ _ _ hP hD hS (lv_sub hl [0, 1, 3, 4] rfl)
        refine lv_aload_n hx hb d_Prod_timesOnce_33 rfl (lv_at hl 2 rfl) ?_
        refine va_get (D := G.1) (ci := 6) (C := R_Prod) (T := F_Prod) (N := 2) (v := .ref a_digits) hx hb hts i_Prod hown hK hP 0 rfl rfl 0 (by decide) (hts (.fieldLink R_Prod 9 "PrivateQueries$Product" "digits" "[I") k_48) (fun _ h9 => h9) rfl d_Prod_timesOnce_34 ?_
        refine lv_iload_n hx hb d_Prod_timesOnce_37 rfl (lv_at hl 0 rfl) ?_
        refine va_iald hx hb hK hP 1 0 rfl rfl (ly_mk hi.1 (ly_hi (by decide) c1)) d_Prod_timesOnce_38 ?_
        refine lv_iload_n hx hb d_Prod_timesOnce_39 rfl (lv_at hl 3 rfl) ?_
        refine lv_imul hx hb d_Prod_timesOnce_40 ?_
        refine lv_goto (tgt := 45) hx hb d_Prod_timesOnce_41 (by decide) ?_
        refine lv_iload_n hx hb d_Prod_timesOnce_45 rfl (lv_at hl 1 rfl) ?_
        refine lv_iadd hx hb d_Prod_timesOnce_46 ?_
        refine lv_istore (lv' := [(4, .int (((g i.toNatClampNeg) * x) + w)), (3, .int i), (2, .int w), (0, .ref h), (1, .int x)]) hx hb d_Prod_timesOnce_47 hl (by decide) rfl (fun ls hl => ?_)
        refine lv_aload_n hx hb d_Prod_timesOnce_49 rfl (lv_at hl 3 rfl) ?_
        refine va_get (D := G.1) (ci := 6) (C := R_Prod) (T := F_Prod) (N := 2) (v := .ref a_digits) hx hb hts i_Prod hown hK hP 0 rfl rfl 0 (by decide) (hts (.fieldLink R_Prod 9 "PrivateQueries$Product" "digits" "[I") k_48) (fun _ h9 => h9) rfl d_Prod_timesOnce_50 ?_
        refine lv_iload_n hx hb d_Prod_timesOnce_53 rfl (lv_at hl 1 rfl) ?_
        refine lv_iload hx hb d_Prod_timesOnce_54 (lv_at hl 0 rfl) ?_
        refine lv_bipush (v := 10) hx hb d_Prod_timesOnce_56 (by decide) ?_
        refine lv_irem hx hb d_Prod_timesOnce_58 (by decide) ?_
        refine va_iast hx hb hK hP hD hS 1 0 rfl rfl (ly_mk hi.1 (ly_hi (by decide) c1)) d_Prod_timesOnce_59 (fun H locs hP hD hS => ?_)
        have hP : va_P G.1 classes [(h, .inr (6, [.ref a_digits, .int k])), (a_digits, .inl (gI G, 96, .inl (upd g i.toNatClampNeg ((((g i.toNatClampNeg) * x) + w) - (((g i.toNatClampNeg) * x) + w) / 10 * 10))))] H := hP
        have hD : va_D A [(h, .inr (6, [.ref a_digits, .int k])), (a_digits, .inl (gI G, 96, .inl (upd g i.toNatClampNeg ((((g i.toNatClampNeg) * x) + w) - (((g i.toNatClampNeg) * x) + w) / 10 * 10))))] := hD
        refine lv_iload hx hb d_Prod_timesOnce_60 (lv_at hl 0 rfl) ?_
        refine lv_bipush (v := 10) hx hb d_Prod_timesOnce_62 (by decide) ?_
        refine lv_idiv hx hb d_Prod_timesOnce_64 (by decide) ?_
        refine lv_istore_n (lv' := [(2, .int ((((g i.toNatClampNeg) * x) + w) / 10)), (4, .int (((g i.toNatClampNeg) * x) + w)), (3, .int i), (0, .ref h), (1, .int x)]) hx hb d_Prod_timesOnce_65 rfl hl (by decide) rfl (fun ls hl => ?_)
        refine lv_aload_n hx hb d_Prod_timesOnce_66 rfl (lv_at hl 3 rfl) ?_
        refine lv_aload_n hx hb d_Prod_timesOnce_67 rfl (lv_at hl 3 rfl) ?_
        refine va_get (D := G.1) (ci := 6) (C := R_Prod) (T := F_Prod) (N := 2) (v := .int k) hx hb hts i_Prod hown hK hP 0 rfl rfl 1 (by decide) (hts (.fieldLink R_Prod 13 "PrivateQueries$Product" "size" "I") k_49) (fun _ h9 => h9) rfl d_Prod_timesOnce_68 ?_
        refine lv_iload_n hx hb d_Prod_timesOnce_71 rfl (lv_at hl 2 rfl) ?_
        refine lv_iconst (v := 1) hx hb d_Prod_timesOnce_72 (by decide) ?_
        refine lv_iadd hx hb d_Prod_timesOnce_73 ?_
        refine va_mmax hx hb (hml.trans hl.1.symm) hown (hts (.methodLink R_Prod 21 Lib.Math.max.name) k_50) (hts (.static Lib.Math.max.name) k_51) (hts (.initialized "java/lang/Math") k_52) (hts (.code Lib.Math.max.name Lib.Math.max.code 2 (some .int)) k_53) (Nat.le_of_ble_eq_true rfl) (Nat.le_of_ble_eq_true rfl) (Nat.zero_le _) (Nat.zero_le _) d_Prod_timesOnce_74 ?_
        refine va_put (D := G.1) (ci := 6) (v := .int (if k < i + 1 then i + 1 else k)) (ty := .int) (C := R_Prod) (T := F_Prod) (N := 2) hx hb hts i_Prod t_Prod t_Prod_ok n_Prod hown hK hP hD hS 0 rfl rfl 1 (by decide) (hts (.fieldLink R_Prod 13 "PrivateQueries$Product" "size" "I") k_49) (fun _ h9 => h9) rfl (by decide +kernel) rfl rfl (Nat.le_of_ble_eq_true rfl) d_Prod_timesOnce_77 (fun H locs hP hD hS => ?_)
        have hP : va_P G.1 classes [(h, .inr (6, [.ref a_digits, .int (if k < i + 1 then i + 1 else k)])), (a_digits, .inl (gI G, 96, .inl (upd g i.toNatClampNeg ((((g i.toNatClampNeg) * x) + w) - (((g i.toNatClampNeg) * x) + w) / 10 * 10))))] H := hP
        have hD : va_D A [(h, .inr (6, [.ref a_digits, .int (if k < i + 1 then i + 1 else k)])), (a_digits, .inl (gI G, 96, .inl (upd g i.toNatClampNeg ((((g i.toNatClampNeg) * x) + w) - (((g i.toNatClampNeg) * x) + w) / 10 * 10))))] := hD
        refine lv_iinc (v := i + 1) (lv' := [(3, .int (i + 1)), (2, .int ((((g i.toNatClampNeg) * x) + w) / 10)), (4, .int (((g i.toNatClampNeg) * x) + w)), (0, .ref h), (1, .int x)]) hx hb d_Prod_timesOnce_80 hl (k := 2) rfl (by rfl) (by decide) rfl (fun ls hl => ?_)
        refine lv_goto (tgt := 4) hx hb d_Prod_timesOnce_83 (by decide) ?_
        have e_ : lp_Prod_timesOnce x (n + 1) w i g k = lp_Prod_timesOnce x n ((((g i.toNatClampNeg) * x) + w) / 10) (i + 1) (upd g i.toNatClampNeg ((((g i.toNatClampNeg) * x) + w) - (((g i.toNatClampNeg) * x) + w) / 10 * 10)) (if k < i + 1 then i + 1 else k) := (by rw [lp_Prod_timesOnce, if_neg c1, if_pos c2, if_neg c3])
        rw [e_]
        exact ih ((((g i.toNatClampNeg) * x) + w) / 10) (i + 1) (upd g i.toNatClampNeg ((((g i.toNatClampNeg) * x) + w) - (((g i.toNatClampNeg) * x) + w) / 10 * 10)) (if k < i + 1 then i + 1 else k) (up_add1 hi (by decide) c1) (mu_step (mu_96 c1) hmu) _ _ _ hP hD hS (lv_sub hl [0, 1, 3, 4] rfl)
      refine lv_iload_n hx hb d_Prod_timesOnce_21 rfl (lv_at hl 1 rfl) ?_
      refine lv_if_le (tgt := 86) hx hb d_Prod_timesOnce_22 (by decide) (fun c4 => ?_) (fun c4 => ?_)
      · skip
        exact ly_vret hx hb hr hlocks hP hD hS d_Prod_timesOnce_86 rfl (by rw [lp_Prod_timesOnce, if_neg c1, if_neg c2, if_pos c4])
      refine lv_iload_n hx hb d_Prod_timesOnce_25 rfl (lv_at hl 0 rfl) ?_
      refine lv_aload_n hx hb d_Prod_timesOnce_26 rfl (lv_at hl 2 rfl) ?_
      refine va_get (D := G.1) (ci := 6) (C := R_Prod) (T := F_Prod) (N := 2) (v := .int k) hx hb hts i_Prod hown hK hP 0 rfl rfl 1 (by decide) (hts (.fieldLink R_Prod 13 "PrivateQueries$Product" "size" "I") k_49) (fun _ h9 => h9) rfl d_Prod_timesOnce_27 ?_
      refine lv_icmp_ge (tgt := 44) hx hb d_Prod_timesOnce_30 (by decide) (fun c5 => ?_) (fun c5 => ?_)
      · skip
        refine lv_iconst (v := 0) hx hb d_Prod_timesOnce_44 (by decide) ?_
        refine lv_iload_n hx hb d_Prod_timesOnce_45 rfl (lv_at hl 1 rfl) ?_
        refine lv_iadd hx hb d_Prod_timesOnce_46 ?_
        refine lv_istore (lv' := [(4, .int (0 + w)), (3, .int i), (2, .int w), (0, .ref h), (1, .int x)]) hx hb d_Prod_timesOnce_47 hl (by decide) rfl (fun ls hl => ?_)
        refine lv_aload_n hx hb d_Prod_timesOnce_49 rfl (lv_at hl 3 rfl) ?_
        refine va_get (D := G.1) (ci := 6) (C := R_Prod) (T := F_Prod) (N := 2) (v := .ref a_digits) hx hb hts i_Prod hown hK hP 0 rfl rfl 0 (by decide) (hts (.fieldLink R_Prod 9 "PrivateQueries$Product" "digits" "[I") k_48) (fun _ h9 => h9) rfl d_Prod_timesOnce_50 ?_
        refine lv_iload_n hx hb d_Prod_timesOnce_53 rfl (lv_at hl 1 rfl) ?_
        refine lv_iload hx hb d_Prod_timesOnce_54 (lv_at hl 0 rfl) ?_
        refine lv_bipush (v := 10) hx hb d_Prod_timesOnce_56 (by decide) ?_
        refine lv_irem hx hb d_Prod_timesOnce_58 (by decide) ?_
        refine va_iast hx hb hK hP hD hS 1 0 rfl rfl (ly_mk hi.1 (ly_hi (by decide) c1)) d_Prod_timesOnce_59 (fun H locs hP hD hS => ?_)
        have hP : va_P G.1 classes [(h, .inr (6, [.ref a_digits, .int k])), (a_digits, .inl (gI G, 96, .inl (upd g i.toNatClampNeg ((0 + w) - (0 + w) / 10 * 10))))] H := hP
        have hD : va_D A [(h, .inr (6, [.ref a_digits, .int k])), (a_digits, .inl (gI G, 96, .inl (upd g i.toNatClampNeg ((0 + w) - (0 + w) / 10 * 10))))] := hD
        refine lv_iload hx hb d_Prod_timesOnce_60 (lv_at hl 0 rfl) ?_
        refine lv_bipush (v := 10) hx hb d_Prod_timesOnce_62 (by decide) ?_
        refine lv_idiv hx hb d_Prod_timesOnce_64 (by decide) ?_
        refine lv_istore_n (lv' := [(2, .int ((0 + w) / 10)), (4, .int (0 + w)), (3, .int i), (0, .ref h), (1, .int x)]) hx hb d_Prod_timesOnce_65 rfl hl (by decide) rfl (fun ls hl => ?_)
        refine lv_aload_n hx hb d_Prod_timesOnce_66 rfl (lv_at hl 3 rfl) ?_
        refine lv_aload_n hx hb d_Prod_timesOnce_67 rfl (lv_at hl 3 rfl) ?_
        refine va_get (D := G.1) (ci := 6) (C := R_Prod) (T := F_Prod) (N := 2) (v := .int k) hx hb hts i_Prod hown hK hP 0 rfl rfl 1 (by decide) (hts (.fieldLink R_Prod 13 "PrivateQueries$Product" "size" "I") k_49) (fun _ h9 => h9) rfl d_Prod_timesOnce_68 ?_
        refine lv_iload_n hx hb d_Prod_timesOnce_71 rfl (lv_at hl 2 rfl) ?_
        refine lv_iconst (v := 1) hx hb d_Prod_timesOnce_72 (by decide) ?_
        refine lv_iadd hx hb d_Prod_timesOnce_73 ?_
        refine va_mmax hx hb (hml.trans hl.1.symm) hown (hts (.methodLink R_Prod 21 Lib.Math.max.name) k_50) (hts (.static Lib.Math.max.name) k_51) (hts (.initialized "java/lang/Math") k_52) (hts (.code Lib.Math.max.name Lib.Math.max.code 2 (some .int)) k_53) (Nat.le_of_ble_eq_true rfl) (Nat.le_of_ble_eq_true rfl) (Nat.zero_le _) (Nat.zero_le _) d_Prod_timesOnce_74 ?_
        refine va_put (D := G.1) (ci := 6) (v := .int (if k < i + 1 then i + 1 else k)) (ty := .int) (C := R_Prod) (T := F_Prod) (N := 2) hx hb hts i_Prod t_Prod t_Prod_ok n_Prod hown hK hP hD hS 0 rfl rfl 1 (by decide) (hts (.fieldLink R_Prod 13 "PrivateQueries$Product" "size" "I") k_49) (fun _ h9 => h9) rfl (by decide +kernel) rfl rfl (Nat.le_of_ble_eq_true rfl) d_Prod_timesOnce_77 (fun H locs hP hD hS => ?_)
        have hP : va_P G.1 classes [(h, .inr (6, [.ref a_digits, .int (if k < i + 1 then i + 1 else k)])), (a_digits, .inl (gI G, 96, .inl (upd g i.toNatClampNeg ((0 + w) - (0 + w) / 10 * 10))))] H := hP
        have hD : va_D A [(h, .inr (6, [.ref a_digits, .int (if k < i + 1 then i + 1 else k)])), (a_digits, .inl (gI G, 96, .inl (upd g i.toNatClampNeg ((0 + w) - (0 + w) / 10 * 10))))] := hD
        refine lv_iinc (v := i + 1) (lv' := [(3, .int (i + 1)), (2, .int ((0 + w) / 10)), (4, .int (0 + w)), (0, .ref h), (1, .int x)]) hx hb d_Prod_timesOnce_80 hl (k := 2) rfl (by rfl) (by decide) rfl (fun ls hl => ?_)
        refine lv_goto (tgt := 4) hx hb d_Prod_timesOnce_83 (by decide) ?_
        have e_ : lp_Prod_timesOnce x (n + 1) w i g k = lp_Prod_timesOnce x n ((0 + w) / 10) (i + 1) (upd g i.toNatClampNeg ((0 + w) - (0 + w) / 10 * 10)) (if k < i + 1 then i + 1 else k) := (by rw [lp_Prod_timesOnce, if_neg c1, if_neg c2, if_neg c4, if_pos c5])
        rw [e_]
        exact ih ((0 + w) / 10) (i + 1) (upd g i.toNatClampNeg ((0 + w) - (0 + w) / 10 * 10)) (if k < i + 1 then i + 1 else k) (up_add1 hi (by decide) c1) (mu_step (mu_96 c1) hmu) _ _ _ hP hD hS (lv_sub hl [0, 1, 3, 4] rfl)
      refine lv_aload_n hx hb d_Prod_timesOnce_33 rfl (lv_at hl 2 rfl) ?_
      refine va_get (D := G.1) (ci := 6) (C := R_Prod) (T := F_Prod) (N := 2) (v := .ref a_digits) hx hb hts i_Prod hown hK hP 0 rfl rfl 0 (by decide) (hts (.fieldLink R_Prod 9 "PrivateQueries$Product" "digits" "[I") k_48) (fun _ h9 => h9) rfl d_Prod_timesOnce_34 ?_
      refine lv_iload_n hx hb d_Prod_timesOnce_37 rfl (lv_at hl 0 rfl) ?_
      refine va_iald hx hb hK hP 1 0 rfl rfl (ly_mk hi.1 (ly_hi (by decide) c1)) d_Prod_timesOnce_38 ?_
      refine lv_iload_n hx hb d_Prod_timesOnce_39 rfl (lv_at hl 3 rfl) ?_
      refine lv_imul hx hb d_Prod_timesOnce_40 ?_
      refine lv_goto (tgt := 45) hx hb d_Prod_timesOnce_41 (by decide) ?_
      refine lv_iload_n hx hb d_Prod_timesOnce_45 rfl (lv_at hl 1 rfl) ?_
      refine lv_iadd hx hb d_Prod_timesOnce_46 ?_
      refine lv_istore (lv' := [(4, .int (((g i.toNatClampNeg) * x) + w)), (3, .int i), (2, .int w), (0, .ref h), (1, .int x)]) hx hb d_Prod_timesOnce_47 hl (by decide) rfl (fun ls hl => ?_)
      refine lv_aload_n hx hb d_Prod_timesOnce_49 rfl (lv_at hl 3 rfl) ?_
      refine va_get (D := G.1) (ci := 6) (C := R_Prod) (T := F_Prod) (N := 2) (v := .ref a_digits) hx hb hts i_Prod hown hK hP 0 rfl rfl 0 (by decide) (hts (.fieldLink R_Prod 9 "PrivateQueries$Product" "digits" "[I") k_48) (fun _ h9 => h9) rfl d_Prod_timesOnce_50 ?_
      refine lv_iload_n hx hb d_Prod_timesOnce_53 rfl (lv_at hl 1 rfl) ?_
      refine lv_iload hx hb d_Prod_timesOnce_54 (lv_at hl 0 rfl) ?_
      refine lv_bipush (v := 10) hx hb d_Prod_timesOnce_56 (by decide) ?_
      refine lv_irem hx hb d_Prod_timesOnce_58 (by decide) ?_
      refine va_iast hx hb hK hP hD hS 1 0 rfl rfl (ly_mk hi.1 (ly_hi (by decide) c1)) d_Prod_timesOnce_59 (fun H locs hP hD hS => ?_)
      have hP : va_P G.1 classes [(h, .inr (6, [.ref a_digits, .int k])), (a_digits, .inl (gI G, 96, .inl (upd g i.toNatClampNeg ((((g i.toNatClampNeg) * x) + w) - (((g i.toNatClampNeg) * x) + w) / 10 * 10))))] H := hP
      have hD : va_D A [(h, .inr (6, [.ref a_digits, .int k])), (a_digits, .inl (gI G, 96, .inl (upd g i.toNatClampNeg ((((g i.toNatClampNeg) * x) + w) - (((g i.toNatClampNeg) * x) + w) / 10 * 10))))] := hD
      refine lv_iload hx hb d_Prod_timesOnce_60 (lv_at hl 0 rfl) ?_
      refine lv_bipush (v := 10) hx hb d_Prod_timesOnce_62 (by decide) ?_
      refine lv_idiv hx hb d_Prod_timesOnce_64 (by decide) ?_
      refine lv_istore_n (lv' := [(2, .int ((((g i.toNatClampNeg) * x) + w) / 10)), (4, .int (((g i.toNatClampNeg) * x) + w)), (3, .int i), (0, .ref h), (1, .int x)]) hx hb d_Prod_timesOnce_65 rfl hl (by decide) rfl (fun ls hl => ?_)
      refine lv_aload_n hx hb d_Prod_timesOnce_66 rfl (lv_at hl 3 rfl) ?_
      refine lv_aload_n hx hb d_Prod_timesOnce_67 rfl (lv_at hl 3 rfl) ?_
      refine va_get (D := G.1) (ci := 6) (C := R_Prod) (T := F_Prod) (N := 2) (v := .int k) hx hb hts i_Prod hown hK hP 0 rfl rfl 1 (by decide) (hts (.fieldLink R_Prod 13 "PrivateQueries$Product" "size" "I") k_49) (fun _ h9 => h9) rfl d_Prod_timesOnce_68 ?_
      refine lv_iload_n hx hb d_Prod_timesOnce_71 rfl (lv_at hl 2 rfl) ?_
      refine lv_iconst (v := 1) hx hb d_Prod_timesOnce_72 (by decide) ?_
      refine lv_iadd hx hb d_Prod_timesOnce_73 ?_
      refine va_mmax hx hb (hml.trans hl.1.symm) hown (hts (.methodLink R_Prod 21 Lib.Math.max.name) k_50) (hts (.static Lib.Math.max.name) k_51) (hts (.initialized "java/lang/Math") k_52) (hts (.code Lib.Math.max.name Lib.Math.max.code 2 (some .int)) k_53) (Nat.le_of_ble_eq_true rfl) (Nat.le_of_ble_eq_true rfl) (Nat.zero_le _) (Nat.zero_le _) d_Prod_timesOnce_74 ?_
      refine va_put (D := G.1) (ci := 6) (v := .int (if k < i + 1 then i + 1 else k)) (ty := .int) (C := R_Prod) (T := F_Prod) (N := 2) hx hb hts i_Prod t_Prod t_Prod_ok n_Prod hown hK hP hD hS 0 rfl rfl 1 (by decide) (hts (.fieldLink R_Prod 13 "PrivateQueries$Product" "size" "I") k_49) (fun _ h9 => h9) rfl (by decide +kernel) rfl rfl (Nat.le_of_ble_eq_true rfl) d_Prod_timesOnce_77 (fun H locs hP hD hS => ?_)
      have hP : va_P G.1 classes [(h, .inr (6, [.ref a_digits, .int (if k < i + 1 then i + 1 else k)])), (a_digits, .inl (gI G, 96, .inl (upd g i.toNatClampNeg ((((g i.toNatClampNeg) * x) + w) - (((g i.toNatClampNeg) * x) + w) / 10 * 10))))] H := hP
      have hD : va_D A [(h, .inr (6, [.ref a_digits, .int (if k < i + 1 then i + 1 else k)])), (a_digits, .inl (gI G, 96, .inl (upd g i.toNatClampNeg ((((g i.toNatClampNeg) * x) + w) - (((g i.toNatClampNeg) * x) + w) / 10 * 10))))] := hD
      refine lv_iinc (v := i + 1) (lv' := [(3, .int (i + 1)), (2, .int ((((g i.toNatClampNeg) * x) + w) / 10)), (4, .int (((g i.toNatClampNeg) * x) + w)), (0, .ref h), (1, .int x)]) hx hb d_Prod_timesOnce_80 hl (k := 2) rfl (by rfl) (by decide) rfl (fun ls hl => ?_)
      refine lv_goto (tgt := 4) hx hb d_Prod_timesOnce_83 (by decide) ?_
      have e_ : lp_Prod_timesOnce x (n + 1) w i g k = lp_Prod_timesOnce x n ((((g i.toNatClampNeg) * x) + w) / 10) (i + 1) (upd g i.toNatClampNeg ((((g i.toNatClampNeg) * x) + w) - (((g i.toNatClampNeg) * x) + w) / 10 * 10)) (if k < i + 1 then i + 1 else k) := (by rw [lp_Prod_timesOnce, if_neg c1, if_neg c2, if_neg c4, if_neg c5])
      rw [e_]
      exact ih ((((g i.toNatClampNeg) * x) + w) / 10) (i + 1) (upd g i.toNatClampNeg ((((g i.toNatClampNeg) * x) + w) - (((g i.toNatClampNeg) * x) + w) / 10 * 10)) (if k < i + 1 then i + 1 else k) (up_add1 hi (by decide) c1) (mu_step (mu_96 c1) hmu) _ _ _ hP hD hS (lv_sub hl [0, 1, 3, 4] rfl)
  have hl : lv_has ls 5 [(0, .ref h), (1, .int x)] := hl
  refine lv_iconst (v := 0) hx hb d_Prod_timesOnce_0 (by decide) ?_
  refine lv_istore_n (lv' := [(2, .int 0), (0, .ref h), (1, .int x)]) hx hb d_Prod_timesOnce_1 rfl hl (by decide) rfl (fun ls hl => ?_)
  refine lv_iconst (v := 0) hx hb d_Prod_timesOnce_2 (by decide) ?_
  refine lv_istore_n (lv' := [(3, .int 0), (2, .int 0), (0, .ref h), (1, .int x)]) hx hb d_Prod_timesOnce_3 rfl hl (by decide) rfl (fun ls hl => ?_)
  exact loop (((96 - (0 : Int32).toInt).toNat) + 1) (0 : Int32) (0 : Int32) f_digits v_size ⟨by decide, by decide⟩ (Nat.lt_succ_self _) _ _ _ hP hD hS (lv_sub hl [0, 1, 2, 3] rfl)

set_option maxHeartbeats 4000000 in
set_option maxRecDepth 100000 in
theorem c_Prod_times (l : Launch) (G : GG) (h : Nat) (a_digits : Nat) (f_digits : Nat → Int32) (v_size : Int32) (x : Int32) (z : Int32) : Det l G y_Prod_times w_Prod_times (rmD 2) 0 0 [.ref h, .int x, .int z] [(h, .inr (6, [.ref a_digits, .int v_size])), (a_digits, .inl (gI G, 96, .inl f_digits))] none [(h, .inr (6, [.ref a_digits, .int (lp_Prod_times x z (((z.toInt - (0 : Int32).toInt).toNat) + 1) (0 : Int32) f_digits v_size).1])), (a_digits, .inl (gI G, 96, .inl (lp_Prod_times x z (((z.toInt - (0 : Int32).toInt).toNat) + 1) (0 : Int32) f_digits v_size).2))] := by
  refine Det.of (cc := b_Prod_times) (maxL := 4) (ret := none) (by decide) rfl (Nat.le_of_ble_eq_true rfl) ?_
  intro p e s m args below meth c A ls hx hb hr hml hown hts hlocks hin hA hK hZ hP hD hS hl
  have hts : ∀ w ∈ wG, w.before args s = true := fun w h => hts w (List.mem_cons_of_mem _ h)
  have hown : s.vm.findClass R_Prod = some m.cls := hown
  have loop : ∀ (n : Nat) (i : Int32) (g : Nat → Int32) (k : Int32), (z.toInt - i.toInt).toNat < n → ∀ (H : Heap) (locs : List Loc) (ls : Array Slot), va_P G.1 classes [(h, .inr (6, [.ref a_digits, .int k])), (a_digits, .inl (gI G, 96, .inl g))] H → va_D A [(h, .inr (6, [.ref a_digits, .int k])), (a_digits, .inl (gI G, 96, .inl g))] → va_S A s.heap H locs → lv_has ls 4 [(3, .int i), (0, .ref h), (1, .int x), (2, .int z)] → W p l e (rmD 2) s m args below meth c H locs 0 0 (MQ below (ly_Q G A none [(h, .inr (6, [.ref a_digits, .int (lp_Prod_times x z n i g k).1])), (a_digits, .inl (gI G, 96, .inl (lp_Prod_times x z n i g k).2))]) args s 0 0 A) (F0 m 2 ls []) := by
    intro n
    induction n with
    | zero => intro i g k  hmu; exact absurd hmu (Nat.not_lt_zero _)
    | succ n ih =>
      intro i g k  hmu H locs ls hP hD hS hl
      refine lv_iload_n hx hb d_Prod_times_2 rfl (lv_at hl 0 rfl) ?_
      refine lv_iload_n hx hb d_Prod_times_3 rfl (lv_at hl 3 rfl) ?_
      refine lv_icmp_ge (tgt := 18) hx hb d_Prod_times_4 (by decide) (fun c1 => ?_) (fun c1 => ?_)
      · skip
        exact ly_vret hx hb hr hlocks hP hD hS d_Prod_times_18 rfl (by rw [lp_Prod_times, if_pos c1])
      refine lv_aload_n hx hb d_Prod_times_7 rfl (lv_at hl 1 rfl) ?_
      refine lv_iload_n hx hb d_Prod_times_8 rfl (lv_at hl 2 rfl) ?_
      obtain ⟨r1, hr1⟩ : ∃ r, (lp_Prod_timesOnce x (((96 - (0 : Int32).toInt).toNat) + 1) (0 : Int32) (0 : Int32) g k) = r := ⟨_, rfl⟩
      have hC_r1 := (c_Prod_timesOnce l G h a_digits g k x)
      rw [hr1] at hC_r1
      refine ly_callV (rest := []) (wf := [(h, .inr (6, [.ref a_digits, .int r1.1])), (a_digits, .inl (gI G, 96, .inl r1.2))]) ⟨hx, hb, hml, hown, hts⟩ hA hK hZ hP hD hS hC_r1 (cwV 1 hts g_Prod_17 rfl rfl rfl (by decide +kernel) ⟨Nat.le_of_ble_eq_true rfl, Nat.le_of_ble_eq_true rfl⟩) (ci := 6) (q0 := 0) rfl rfl rfl [0, 1] rfl (by decide) rfl rfl rfl hl.1 rfl (Nat.le_of_ble_eq_true rfl) d_Prod_times_9 ⟨Nat.le_of_ble_eq_true rfl, Nat.le_of_ble_eq_true rfl⟩ (st1 := []) (c1 := 0) (s1 := 0) rfl rfl rfl (fun H locs hP hD hS => ?_)
      refine lv_iinc (v := i + 1) (lv' := [(3, .int (i + 1)), (0, .ref h), (1, .int x), (2, .int z)]) hx hb d_Prod_times_12 hl (k := 0) rfl (by rfl) (by decide) rfl (fun ls hl => ?_)
      refine lv_goto (tgt := 2) hx hb d_Prod_times_15 (by decide) ?_
      have e_ : lp_Prod_times x z (n + 1) i g k = lp_Prod_times x z n (i + 1) r1.2 r1.1 := (by rw [lp_Prod_times] <;> simp only [hr1] <;> rw [if_neg c1])
      rw [e_]
      exact ih (i + 1) r1.2 r1.1 (mu_step (mu_up c1) hmu) _ _ _ hP hD hS (lv_sub hl [0, 1, 2, 3] rfl)
  have hl : lv_has ls 4 [(0, .ref h), (1, .int x), (2, .int z)] := hl
  refine lv_iconst (v := 0) hx hb d_Prod_times_0 (by decide) ?_
  refine lv_istore_n (lv' := [(3, .int 0), (0, .ref h), (1, .int x), (2, .int z)]) hx hb d_Prod_times_1 rfl hl (by decide) rfl (fun ls hl => ?_)
  exact loop (((z.toInt - (0 : Int32).toInt).toNat) + 1) (0 : Int32) f_digits v_size (Nat.lt_succ_self _) _ _ _ hP hD hS (lv_sub hl [0, 1, 2, 3] rfl)

set_option maxHeartbeats 4000000 in
set_option maxRecDepth 100000 in
theorem c_Prod_writeInto (l : Launch) (G : GG) (h : Nat) (a_digits : Nat) (w_h : Nat) (w_a_signs : Nat) (f_digits : Nat → Int32) (v_size : Int32) (w_f_signs : Nat → Int32) (w__size : Int32) (hz_w : up w__size 4000) (hz_v_size : up v_size 96) : Det l G y_Prod_writeInto w_Prod_writeInto (rmD 1) 0 0 [.ref h, .ref w_h] [(h, .inr (6, [.ref a_digits, .int v_size])), (a_digits, .inl (gI G, 96, .inl f_digits)), (w_h, .inr (5, [.ref w_a_signs, .int w__size])), (w_a_signs, .inl (gC G, 4000, .inl w_f_signs))] none [(h, .inr (6, [.ref a_digits, .int v_size])), (a_digits, .inl (gI G, 96, .inl f_digits)), (w_h, .inr (5, [.ref w_a_signs, .int (lp_Prod_writeInto f_digits (((((if 96 < v_size then 96 else v_size) - 1).toInt + 1).toNat) + 1) ((if 96 < v_size then 96 else v_size) - 1) w_f_signs w__size).1])), (w_a_signs, .inl (gC G, 4000, .inl (lp_Prod_writeInto f_digits (((((if 96 < v_size then 96 else v_size) - 1).toInt + 1).toNat) + 1) ((if 96 < v_size then 96 else v_size) - 1) w_f_signs w__size).2))] := by
  refine Det.of (cc := b_Prod_writeInto) (maxL := 3) (ret := none) (by decide) rfl (Nat.le_of_ble_eq_true rfl) ?_
  intro p e s m args below meth c A ls hx hb hr hml hown hts hlocks hin hA hK hZ hP hD hS hl
  have hts : ∀ w ∈ wG, w.before args s = true := fun w h => hts w (List.mem_cons_of_mem _ h)
  have hown : s.vm.findClass R_Prod = some m.cls := hown
  have loop : ∀ (n : Nat) (i : Int32) (g : Nat → Int32) (k : Int32), up k 4000 → i.toInt < 96 → (i.toInt + 1).toNat < n → ∀ (H : Heap) (locs : List Loc) (ls : Array Slot), va_P G.1 classes [(h, .inr (6, [.ref a_digits, .int v_size])), (a_digits, .inl (gI G, 96, .inl f_digits)), (w_h, .inr (5, [.ref w_a_signs, .int k])), (w_a_signs, .inl (gC G, 4000, .inl g))] H → va_D A [(h, .inr (6, [.ref a_digits, .int v_size])), (a_digits, .inl (gI G, 96, .inl f_digits)), (w_h, .inr (5, [.ref w_a_signs, .int k])), (w_a_signs, .inl (gC G, 4000, .inl g))] → va_S A s.heap H locs → lv_has ls 3 [(2, .int i), (0, .ref h), (1, .ref w_h)] → W p l e (rmD 1) s m args below meth c H locs 0 0 (MQ below (ly_Q G A none [(h, .inr (6, [.ref a_digits, .int v_size])), (a_digits, .inl (gI G, 96, .inl f_digits)), (w_h, .inr (5, [.ref w_a_signs, .int (lp_Prod_writeInto f_digits n i g k).1])), (w_a_signs, .inl (gC G, 4000, .inl (lp_Prod_writeInto f_digits n i g k).2))]) args s 0 0 A) (F0 m 15 ls []) := by
    intro n
    induction n with
    | zero => intro i g k hk hi hmu; exact absurd hmu (Nat.not_lt_zero _)
    | succ n ih =>
      intro i g k hk hi hmu H locs ls hP hD hS hl
      refine lv_iload_n hx hb d_Prod_writeInto_15 rfl (lv_at hl 0 rfl) ?_
      refine lv_if_lt (tgt := 39) hx hb d_Prod_writeInto_16 (by decide) (fun c1 => ?_) (fun c1 => ?_)
      · skip
        exact ly_vret hx hb hr hlocks hP hD hS d_Prod_writeInto_39 rfl (by rw [lp_Prod_writeInto, if_pos c1])
      refine lv_aload_n hx hb d_Prod_writeInto_19 rfl (lv_at hl 2 rfl) ?_
      refine lv_bipush (v := 48) hx hb d_Prod_writeInto_20 (by decide) ?_
      refine lv_aload_n hx hb d_Prod_writeInto_22 rfl (lv_at hl 1 rfl) ?_
      refine va_get (D := G.1) (ci := 6) (C := R_Prod) (T := F_Prod) (N := 2) (v := .ref a_digits) hx hb hts i_Prod hown hK hP 0 rfl rfl 0 (by decide) (hts (.fieldLink R_Prod 9 "PrivateQueries$Product" "digits" "[I") k_48) (fun _ h9 => h9) rfl d_Prod_writeInto_23 ?_
      refine lv_iload_n hx hb d_Prod_writeInto_26 rfl (lv_at hl 0 rfl) ?_
      refine va_iald hx hb hK hP 1 0 rfl rfl (ly_mk (ly_lo c1) hi) d_Prod_writeInto_27 ?_
      refine lv_iadd hx hb d_Prod_writeInto_28 ?_
      refine lv_i2c (v := ((48 + (f_digits i.toNatClampNeg)).toUInt32 % 65536).toInt32) hx hb d_Prod_writeInto_29 rfl ?_
      obtain ⟨r1, hr1⟩ : ∃ r, (s_Out_add g k (((48 + (f_digits i.toNatClampNeg)).toUInt32 % 65536).toInt32)) = r := ⟨_, rfl⟩
      have hC_r1 := (c_Out_add l G w_h w_a_signs g k (((48 + (f_digits i.toNatClampNeg)).toUInt32 % 65536).toInt32) hk)
      rw [hr1] at hC_r1
      have hf_r1_1 : up r1.1 4000 := by rw [← hr1]; exact (k_out hk)
      refine ly_callV (rest := []) (wf := [(h, .inr (6, [.ref a_digits, .int v_size])), (a_digits, .inl (gI G, 96, .inl f_digits)), (w_h, .inr (5, [.ref w_a_signs, .int r1.1])), (w_a_signs, .inl (gC G, 4000, .inl r1.2))]) ⟨hx, hb, hml, hown, hts⟩ hA hK hZ hP hD hS hC_r1 (cwV 1 hts g_Prod_30 rfl rfl rfl (by decide +kernel) ⟨Nat.le_of_ble_eq_true rfl, Nat.le_of_ble_eq_true rfl⟩) (ci := 5) (q0 := 2) rfl rfl rfl [2, 3] rfl (by decide) rfl rfl rfl hl.1 rfl (Nat.le_of_ble_eq_true rfl) d_Prod_writeInto_30 ⟨Nat.le_of_ble_eq_true rfl, Nat.le_of_ble_eq_true rfl⟩ (st1 := []) (c1 := 0) (s1 := 0) rfl rfl rfl (fun H locs hP hD hS => ?_)
      refine lv_iinc (v := i + (-1)) (lv' := [(2, .int (i + (-1))), (0, .ref h), (1, .ref w_h)]) hx hb d_Prod_writeInto_33 hl (k := 0) rfl (by rfl) (by decide) rfl (fun ls hl => ?_)
      refine lv_goto (tgt := 15) hx hb d_Prod_writeInto_36 (by decide) ?_
      have e_ : lp_Prod_writeInto f_digits (n + 1) i g k = lp_Prod_writeInto f_digits n (i + (-1)) r1.2 r1.1 := (by rw [lp_Prod_writeInto] <;> simp only [hr1] <;> rw [if_neg c1])
      rw [e_]
      exact ih (i + (-1)) r1.2 r1.1 hf_r1_1 (wi_1 c1 hi) (mu_step (mu_dn c1) hmu) _ _ _ hP hD hS (lv_sub hl [0, 1, 2] rfl)
  have hl : lv_has ls 3 [(0, .ref h), (1, .ref w_h)] := hl
  refine lv_aload_n hx hb d_Prod_writeInto_0 rfl (lv_at hl 0 rfl) ?_
  refine va_get (D := G.1) (ci := 6) (C := R_Prod) (T := F_Prod) (N := 2) (v := .int v_size) hx hb hts i_Prod hown hK hP 0 rfl rfl 1 (by decide) (hts (.fieldLink R_Prod 13 "PrivateQueries$Product" "size" "I") k_49) (fun _ h9 => h9) rfl d_Prod_writeInto_1 ?_
  refine lv_aload_n hx hb d_Prod_writeInto_4 rfl (lv_at hl 0 rfl) ?_
  refine va_get (D := G.1) (ci := 6) (C := R_Prod) (T := F_Prod) (N := 2) (v := .ref a_digits) hx hb hts i_Prod hown hK hP 0 rfl rfl 0 (by decide) (hts (.fieldLink R_Prod 9 "PrivateQueries$Product" "digits" "[I") k_48) (fun _ h9 => h9) rfl d_Prod_writeInto_5 ?_
  refine va_alen (v := 96) hx hb hK hP 1 0 rfl rfl (show Int32.ofNat 96 = 96 by decide) d_Prod_writeInto_8 ?_
  refine va_mmin hx hb (hml.trans hl.1.symm) hown (hts (.methodLink R_Prod 27 Lib.Math.min.name) k_59) (hts (.static Lib.Math.min.name) k_60) (hts (.initialized "java/lang/Math") k_52) (hts (.code Lib.Math.min.name Lib.Math.min.code 2 (some .int)) k_61) (Nat.le_of_ble_eq_true rfl) (Nat.le_of_ble_eq_true rfl) (Nat.zero_le _) (Nat.zero_le _) d_Prod_writeInto_9 ?_
  refine lv_iconst (v := 1) hx hb d_Prod_writeInto_12 (by decide) ?_
  refine lv_isub hx hb d_Prod_writeInto_13 ?_
  refine lv_istore_n (lv' := [(2, .int ((if 96 < v_size then 96 else v_size) - 1)), (0, .ref h), (1, .ref w_h)]) hx hb d_Prod_writeInto_14 rfl hl (by decide) rfl (fun ls hl => ?_)
  exact loop (((((if 96 < v_size then 96 else v_size) - 1).toInt + 1).toNat) + 1) ((if 96 < v_size then 96 else v_size) - 1) w_f_signs w__size hz_w (wi_0 hz_v_size) (Nat.lt_succ_self _) _ _ _ hP hD hS (lv_sub hl [0, 1, 2] rfl)
