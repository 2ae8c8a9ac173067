theorem d_Out_size_0 : decode b_Out_size 0 = .ok (.aload_n 0, 1) := by decide +kernel
theorem d_Out_size_1 : decode b_Out_size 1 = .ok (.getfield 17, 3) := by decide +kernel
theorem d_Out_size_4 : decode b_Out_size 4 = .ok (.ireturn, 1) := by decide +kernel
theorem d_Out_signAt_0 : decode b_Out_signAt 0 = .ok (.iload_n 1, 1) := by decide +kernel
theorem d_Out_signAt_1 : decode b_Out_signAt 1 = .ok (.ifCond .lt 20, 3) := by decide +kernel
theorem d_Out_signAt_4 : decode b_Out_signAt 4 = .ok (.iload_n 1, 1) := by decide +kernel
theorem d_Out_signAt_5 : decode b_Out_signAt 5 = .ok (.aload_n 0, 1) := by decide +kernel
theorem d_Out_signAt_6 : decode b_Out_signAt 6 = .ok (.getfield 17, 3) := by decide +kernel
theorem d_Out_signAt_9 : decode b_Out_signAt 9 = .ok (.if_icmp .ge 12, 3) := by decide +kernel
theorem d_Out_signAt_12 : decode b_Out_signAt 12 = .ok (.aload_n 0, 1) := by decide +kernel
theorem d_Out_signAt_13 : decode b_Out_signAt 13 = .ok (.getfield 13, 3) := by decide +kernel
theorem d_Out_signAt_16 : decode b_Out_signAt 16 = .ok (.iload_n 1, 1) := by decide +kernel
theorem d_Out_signAt_17 : decode b_Out_signAt 17 = .ok (.caload, 1) := by decide +kernel
theorem d_Out_signAt_18 : decode b_Out_signAt 18 = .ok (.goto 4, 3) := by decide +kernel
theorem d_Out_signAt_21 : decode b_Out_signAt 21 = .ok (.iconst (-1), 1) := by decide +kernel
theorem d_Out_signAt_22 : decode b_Out_signAt 22 = .ok (.ireturn, 1) := by decide +kernel
theorem d_Out_clear_0 : decode b_Out_clear 0 = .ok (.aload_n 0, 1) := by decide +kernel
theorem d_Out_clear_1 : decode b_Out_clear 1 = .ok (.iconst 0, 1) := by decide +kernel
theorem d_Out_clear_2 : decode b_Out_clear 2 = .ok (.putfield 17, 3) := by decide +kernel
theorem d_Out_clear_5 : decode b_Out_clear 5 = .ok (.return_, 1) := by decide +kernel
theorem d_Out_add_0 : decode b_Out_add 0 = .ok (.aload_n 0, 1) := by decide +kernel
theorem d_Out_add_1 : decode b_Out_add 1 = .ok (.getfield 17, 3) := by decide +kernel
theorem d_Out_add_4 : decode b_Out_add 4 = .ok (.aload_n 0, 1) := by decide +kernel
theorem d_Out_add_5 : decode b_Out_add 5 = .ok (.getfield 13, 3) := by decide +kernel
theorem d_Out_add_8 : decode b_Out_add 8 = .ok (.arraylength, 1) := by decide +kernel
theorem d_Out_add_9 : decode b_Out_add 9 = .ok (.if_icmp .ge 23, 3) := by decide +kernel
theorem d_Out_add_12 : decode b_Out_add 12 = .ok (.aload_n 0, 1) := by decide +kernel
theorem d_Out_add_13 : decode b_Out_add 13 = .ok (.getfield 13, 3) := by decide +kernel
theorem d_Out_add_16 : decode b_Out_add 16 = .ok (.aload_n 0, 1) := by decide +kernel
theorem d_Out_add_17 : decode b_Out_add 17 = .ok (.getfield 17, 3) := by decide +kernel
theorem d_Out_add_20 : decode b_Out_add 20 = .ok (.iload_n 1, 1) := by decide +kernel
theorem d_Out_add_21 : decode b_Out_add 21 = .ok (.castore, 1) := by decide +kernel
theorem d_Out_add_22 : decode b_Out_add 22 = .ok (.aload_n 0, 1) := by decide +kernel
theorem d_Out_add_23 : decode b_Out_add 23 = .ok (.dup, 1) := by decide +kernel
theorem d_Out_add_24 : decode b_Out_add 24 = .ok (.getfield 17, 3) := by decide +kernel
theorem d_Out_add_27 : decode b_Out_add 27 = .ok (.iconst 1, 1) := by decide +kernel
theorem d_Out_add_28 : decode b_Out_add 28 = .ok (.iadd, 1) := by decide +kernel
theorem d_Out_add_29 : decode b_Out_add 29 = .ok (.putfield 17, 3) := by decide +kernel
theorem d_Out_add_32 : decode b_Out_add 32 = .ok (.return_, 1) := by decide +kernel
theorem d_Out_addNumber_0 : decode b_Out_addNumber 0 = .ok (.ldc 35, 2) := by decide +kernel
theorem d_Out_addNumber_2 : decode b_Out_addNumber 2 = .ok (.istore_n 2, 1) := by decide +kernel
theorem d_Out_addNumber_3 : decode b_Out_addNumber 3 = .ok (.iload_n 2, 1) := by decide +kernel
theorem d_Out_addNumber_4 : decode b_Out_addNumber 4 = .ok (.ifCond .le 35, 3) := by decide +kernel
theorem d_Out_addNumber_7 : decode b_Out_addNumber 7 = .ok (.iload_n 1, 1) := by decide +kernel
theorem d_Out_addNumber_8 : decode b_Out_addNumber 8 = .ok (.iload_n 2, 1) := by decide +kernel
theorem d_Out_addNumber_9 : decode b_Out_addNumber 9 = .ok (.if_icmp .ge 8, 3) := by decide +kernel
theorem d_Out_addNumber_12 : decode b_Out_addNumber 12 = .ok (.iload_n 2, 1) := by decide +kernel
theorem d_Out_addNumber_13 : decode b_Out_addNumber 13 = .ok (.iconst 1, 1) := by decide +kernel
theorem d_Out_addNumber_14 : decode b_Out_addNumber 14 = .ok (.if_icmp .ne 17, 3) := by decide +kernel
theorem d_Out_addNumber_17 : decode b_Out_addNumber 17 = .ok (.aload_n 0, 1) := by decide +kernel
theorem d_Out_addNumber_18 : decode b_Out_addNumber 18 = .ok (.bipush 48, 2) := by decide +kernel
theorem d_Out_addNumber_20 : decode b_Out_addNumber 20 = .ok (.iload_n 1, 1) := by decide +kernel
theorem d_Out_addNumber_21 : decode b_Out_addNumber 21 = .ok (.iload_n 2, 1) := by decide +kernel
theorem d_Out_addNumber_22 : decode b_Out_addNumber 22 = .ok (.idiv, 1) := by decide +kernel
theorem d_Out_addNumber_23 : decode b_Out_addNumber 23 = .ok (.bipush 10, 2) := by decide +kernel
theorem d_Out_addNumber_25 : decode b_Out_addNumber 25 = .ok (.irem, 1) := by decide +kernel
theorem d_Out_addNumber_26 : decode b_Out_addNumber 26 = .ok (.iadd, 1) := by decide +kernel
theorem d_Out_addNumber_27 : decode b_Out_addNumber 27 = .ok (.i2c, 1) := by decide +kernel
theorem d_Out_addNumber_28 : decode b_Out_addNumber 28 = .ok (.invokevirtual 31, 3) := by decide +kernel
theorem d_Out_addNumber_31 : decode b_Out_addNumber 31 = .ok (.iload_n 2, 1) := by decide +kernel
theorem d_Out_addNumber_32 : decode b_Out_addNumber 32 = .ok (.bipush 10, 2) := by decide +kernel
theorem d_Out_addNumber_34 : decode b_Out_addNumber 34 = .ok (.idiv, 1) := by decide +kernel
theorem d_Out_addNumber_35 : decode b_Out_addNumber 35 = .ok (.istore_n 2, 1) := by decide +kernel
theorem d_Out_addNumber_36 : decode b_Out_addNumber 36 = .ok (.goto (-33), 3) := by decide +kernel
theorem d_Out_addNumber_39 : decode b_Out_addNumber 39 = .ok (.return_, 1) := by decide +kernel
theorem k_40 : (.fieldLink R_Out 17 "PrivateQueries$Out" "size" "I" : Cond) ∈ wG := wGm 189 (by decide +kernel) (by decide +kernel)
theorem k_41 : (.fieldLink R_Out 13 "PrivateQueries$Out" "signs" "[C" : Cond) ∈ wG := wGm 188 (by decide +kernel) (by decide +kernel)
theorem k_42 : (.constant R_Out 35 1000000000 : Cond) ∈ wG := wGm 902 (by decide +kernel) (by decide +kernel)
theorem k_43 : (.methodLink R_Out 31 y_Out_add : Cond) ∈ wG := wGm 903 (by decide +kernel) (by decide +kernel)
theorem k_44 : (.instanceMethod y_Out_add : Cond) ∈ wG := wGm 892 (by decide +kernel) (by decide +kernel)
theorem k_45 : (.selects R_Out y_Out_add y_Out_add : Cond) ∈ wG := wGm 893 (by decide +kernel) (by decide +kernel)
theorem k_46 : (.initialized R_Out : Cond) ∈ wG := wGm 91 (by decide +kernel) (by decide +kernel)
theorem k_47 : (.code y_Out_add b_Out_add 2 none : Cond) ∈ wG := wGm 894 (by decide +kernel) (by decide +kernel)
theorem g_Out_31 : GoodIn wG (wsV R_Out 31 R_Out y_Out_add w_Out_add) := wGa (fun w hw => by
  rcases List.mem_cons.mp hw with e | hw
  · exact e ▸ k_43
  rcases List.mem_cons.mp hw with e | hw
  · exact e ▸ k_44
  rcases List.mem_cons.mp hw with e | hw
  · exact e ▸ k_45
  rcases List.mem_cons.mp hw with e | hw
  · exact e ▸ k_46
  · exact absurd hw List.not_mem_nil) (wGc k_47)
set_option maxHeartbeats 4000000 in
set_option maxRecDepth 100000 in
theorem c_Out_size (l : Launch) (G : GG) (h : Nat) (a_signs : Nat) (v_size : Int32) : Det l G y_Out_size w_Out_size (rmD 0) 0 0 [.ref h] [(h, .inr (5, [.ref a_signs, .int v_size]))] (some (.int v_size)) [(h, .inr (5, [.ref a_signs, .int v_size]))] := by
  refine Det.of (cc := b_Out_size) (maxL := 1) (ret := (some .int)) (by decide) rfl (Nat.le_of_ble_eq_true rfl) ?_
  intro p e s m args below meth c A ls hx hb hr hml hown hts hlocks hin hA hK hZ hP hD hS hl
  have hts : ∀ w ∈ wG, w.before args s = true := fun w h => hts w (List.mem_cons_of_mem _ h)
  have hown : s.vm.findClass R_Out = some m.cls := hown
  have hl : lv_has ls 1 [(0, .ref h)] := hl
  refine lv_aload_n hx hb d_Out_size_0 rfl (lv_at hl 0 rfl) ?_
  refine va_get (D := G.1) (ci := 5) (C := R_Out) (T := F_Out) (N := 2) (v := .int v_size) hx hb hts i_Out hown hK hP 0 rfl rfl 1 (by decide) (hts (.fieldLink R_Out 17 "PrivateQueries$Out" "size" "I") k_40) (fun _ h9 => h9) rfl d_Out_size_1 ?_
  exact ly_iret hx hb hr hlocks hP hD hS d_Out_size_4 rfl rfl

set_option maxHeartbeats 4000000 in
set_option maxRecDepth 100000 in
theorem c_Out_signAt (l : Launch) (G : GG) (h : Nat) (a_signs : Nat) (f_signs : Nat → Int32) (v_size : Int32) (x : Int32) (hz_v_size : up v_size 4000) : Det l G y_Out_signAt w_Out_signAt (rmD 0) 0 0 [.ref h, .int x] [(h, .inr (5, [.ref a_signs, .int v_size])), (a_signs, .inl (gC G, 4000, .inl f_signs))] (some (.int (s_Out_signAt f_signs v_size x))) [(h, .inr (5, [.ref a_signs, .int v_size])), (a_signs, .inl (gC G, 4000, .inl f_signs))] := by
  refine Det.of (cc := b_Out_signAt) (maxL := 2) (ret := (some .int)) (by decide) rfl (Nat.le_of_ble_eq_true rfl) ?_
  intro p e s m args below meth c A ls hx hb hr hml hown hts hlocks hin hA hK hZ hP hD hS hl
  have hts : ∀ w ∈ wG, w.before args s = true := fun w h => hts w (List.mem_cons_of_mem _ h)
  have hown : s.vm.findClass R_Out = some m.cls := hown
  have hl : lv_has ls 2 [(0, .ref h), (1, .int x)] := hl
  refine lv_iload_n hx hb d_Out_signAt_0 rfl (lv_at hl 1 rfl) ?_
  refine lv_if_lt (tgt := 21) hx hb d_Out_signAt_1 (by decide) (fun c1 => ?_) (fun c1 => ?_)
  · skip
    refine lv_iconst (v := -1) hx hb d_Out_signAt_21 (by decide) ?_
    exact ly_iret hx hb hr hlocks hP hD hS d_Out_signAt_22 (by rw [s_Out_signAt, if_pos c1]) rfl
  refine lv_iload_n hx hb d_Out_signAt_4 rfl (lv_at hl 1 rfl) ?_
  refine lv_aload_n hx hb d_Out_signAt_5 rfl (lv_at hl 0 rfl) ?_
  refine va_get (D := G.1) (ci := 5) (C := R_Out) (T := F_Out) (N := 2) (v := .int v_size) hx hb hts i_Out hown hK hP 0 rfl rfl 1 (by decide) (hts (.fieldLink R_Out 17 "PrivateQueries$Out" "size" "I") k_40) (fun _ h9 => h9) rfl d_Out_signAt_6 ?_
  refine lv_icmp_ge (tgt := 21) hx hb d_Out_signAt_9 (by decide) (fun c2 => ?_) (fun c2 => ?_)
  · skip
    refine lv_iconst (v := -1) hx hb d_Out_signAt_21 (by decide) ?_
    exact ly_iret hx hb hr hlocks hP hD hS d_Out_signAt_22 (by rw [s_Out_signAt, if_neg c1, if_pos c2]) rfl
  refine lv_aload_n hx hb d_Out_signAt_12 rfl (lv_at hl 0 rfl) ?_
  refine va_get (D := G.1) (ci := 5) (C := R_Out) (T := F_Out) (N := 2) (v := .ref a_signs) hx hb hts i_Out hown hK hP 0 rfl rfl 0 (by decide) (hts (.fieldLink R_Out 13 "PrivateQueries$Out" "signs" "[C") k_41) (fun _ h9 => h9) rfl d_Out_signAt_13 ?_
  refine lv_iload_n hx hb d_Out_signAt_16 rfl (lv_at hl 1 rfl) ?_
  refine va_cald hx hb hK hP 1 1 rfl rfl (ly_mk (ly_lo c1) (ly_hiV hz_v_size.2 c2)) d_Out_signAt_17 ?_
  refine lv_goto (tgt := 22) hx hb d_Out_signAt_18 (by decide) ?_
  exact ly_iret hx hb hr hlocks hP hD hS d_Out_signAt_22 (by rw [s_Out_signAt, if_neg c1, if_neg c2]) rfl

set_option maxHeartbeats 4000000 in
set_option maxRecDepth 100000 in
theorem c_Out_clear (l : Launch) (G : GG) (h : Nat) (a_signs : Nat) (v_size : Int32) : Det l G y_Out_clear w_Out_clear (rmD 0) 0 0 [.ref h] [(h, .inr (5, [.ref a_signs, .int v_size]))] none [(h, .inr (5, [.ref a_signs, .int 0]))] := by
  refine Det.of (cc := b_Out_clear) (maxL := 1) (ret := none) (by decide) rfl (Nat.le_of_ble_eq_true rfl) ?_
  intro p e s m args below meth c A ls hx hb hr hml hown hts hlocks hin hA hK hZ hP hD hS hl
  have hts : ∀ w ∈ wG, w.before args s = true := fun w h => hts w (List.mem_cons_of_mem _ h)
  have hown : s.vm.findClass R_Out = some m.cls := hown
  have hl : lv_has ls 1 [(0, .ref h)] := hl
  refine lv_aload_n hx hb d_Out_clear_0 rfl (lv_at hl 0 rfl) ?_
  refine lv_iconst (v := 0) hx hb d_Out_clear_1 (by decide) ?_
  refine va_put (D := G.1) (ci := 5) (v := .int 0) (ty := .int) (C := R_Out) (T := F_Out) (N := 2) hx hb hts i_Out t_Out t_Out_ok n_Out hown hK hP hD hS 0 rfl rfl 1 (by decide) (hts (.fieldLink R_Out 17 "PrivateQueries$Out" "size" "I") k_40) (fun _ h9 => h9) rfl (by decide +kernel) rfl rfl (Nat.le_of_ble_eq_true rfl) d_Out_clear_2 (fun H locs hP hD hS => ?_)
  have hP : va_P G.1 classes [(h, .inr (5, [.ref a_signs, .int 0]))] H := hP
  have hD : va_D A [(h, .inr (5, [.ref a_signs, .int 0]))] := hD
  exact ly_vret hx hb hr hlocks hP hD hS d_Out_clear_5 rfl rfl

theorem k_out {f : Nat → Int32} {v x : Int32} (hz : up v 4000) : up (s_Out_add f v x).1 4000 := by
  unfold s_Out_add
  split
  · exact hz
  · rename_i h
    exact up_add1 hz (by decide) h
set_option maxHeartbeats 4000000 in
set_option maxRecDepth 100000 in
theorem c_Out_add (l : Launch) (G : GG) (h : Nat) (a_signs : Nat) (f_signs : Nat → Int32) (v_size : Int32) (x : Int32) (hz_v_size : up v_size 4000) : Det l G y_Out_add w_Out_add (rmD 0) 0 0 [.ref h, .int x] [(h, .inr (5, [.ref a_signs, .int v_size])), (a_signs, .inl (gC G, 4000, .inl f_signs))] none [(h, .inr (5, [.ref a_signs, .int (s_Out_add f_signs v_size x).1])), (a_signs, .inl (gC G, 4000, .inl (s_Out_add f_signs v_size x).2))] := by
  refine Det.of (cc := b_Out_add) (maxL := 2) (ret := none) (by decide) rfl (Nat.le_of_ble_eq_true rfl) ?_
  intro p e s m args below meth c A ls hx hb hr hml hown hts hlocks hin hA hK hZ hP hD hS hl
  have hts : ∀ w ∈ wG, w.before args s = true := fun w h => hts w (List.mem_cons_of_mem _ h)
  have hown : s.vm.findClass R_Out = some m.cls := hown
  have hl : lv_has ls 2 [(0, .ref h), (1, .int x)] := hl
  refine lv_aload_n hx hb d_Out_add_0 rfl (lv_at hl 0 rfl) ?_
  refine va_get (D := G.1) (ci := 5) (C := R_Out) (T := F_Out) (N := 2) (v := .int v_size) hx hb hts i_Out hown hK hP 0 rfl rfl 1 (by decide) (hts (.fieldLink R_Out 17 "PrivateQueries$Out" "size" "I") k_40) (fun _ h9 => h9) rfl d_Out_add_1 ?_
  refine lv_aload_n hx hb d_Out_add_4 rfl (lv_at hl 0 rfl) ?_
  refine va_get (D := G.1) (ci := 5) (C := R_Out) (T := F_Out) (N := 2) (v := .ref a_signs) hx hb hts i_Out hown hK hP 0 rfl rfl 0 (by decide) (hts (.fieldLink R_Out 13 "PrivateQueries$Out" "signs" "[C") k_41) (fun _ h9 => h9) rfl d_Out_add_5 ?_
  refine va_alen (v := 4000) hx hb hK hP 1 1 rfl rfl (show Int32.ofNat 4000 = 4000 by decide) d_Out_add_8 ?_
  refine lv_icmp_ge (tgt := 32) hx hb d_Out_add_9 (by decide) (fun c1 => ?_) (fun c1 => ?_)
  · skip
    exact ly_vret hx hb hr hlocks hP hD hS d_Out_add_32 rfl (by rw [s_Out_add, if_pos c1])
  refine lv_aload_n hx hb d_Out_add_12 rfl (lv_at hl 0 rfl) ?_
  refine va_get (D := G.1) (ci := 5) (C := R_Out) (T := F_Out) (N := 2) (v := .ref a_signs) hx hb hts i_Out hown hK hP 0 rfl rfl 0 (by decide) (hts (.fieldLink R_Out 13 "PrivateQueries$Out" "signs" "[C") k_41) (fun _ h9 => h9) rfl d_Out_add_13 ?_
  refine lv_aload_n hx hb d_Out_add_16 rfl (lv_at hl 0 rfl) ?_
  refine va_get (D := G.1) (ci := 5) (C := R_Out) (T := F_Out) (N := 2) (v := .int v_size) hx hb hts i_Out hown hK hP 0 rfl rfl 1 (by decide) (hts (.fieldLink R_Out 17 "PrivateQueries$Out" "size" "I") k_40) (fun _ h9 => h9) rfl d_Out_add_17 ?_
  refine lv_iload_n hx hb d_Out_add_20 rfl (lv_at hl 1 rfl) ?_
  refine va_cast hx hb hK hP hD hS 1 1 rfl rfl (ly_mk hz_v_size.1 (ly_hi (by decide) c1)) d_Out_add_21 (fun H locs hP hD hS => ?_)
  have hP : va_P G.1 classes [(h, .inr (5, [.ref a_signs, .int v_size])), (a_signs, .inl (gC G, 4000, .inl (upd f_signs v_size.toNatClampNeg (vp_nar .char x))))] H := hP
  have hD : va_D A [(h, .inr (5, [.ref a_signs, .int v_size])), (a_signs, .inl (gC G, 4000, .inl (upd f_signs v_size.toNatClampNeg (vp_nar .char x))))] := hD
  refine lv_aload_n hx hb d_Out_add_22 rfl (lv_at hl 0 rfl) ?_
  refine lv_dup hx hb d_Out_add_23 rfl ?_
  refine va_get (D := G.1) (ci := 5) (C := R_Out) (T := F_Out) (N := 2) (v := .int v_size) hx hb hts i_Out hown hK hP 0 rfl rfl 1 (by decide) (hts (.fieldLink R_Out 17 "PrivateQueries$Out" "size" "I") k_40) (fun _ h9 => h9) rfl d_Out_add_24 ?_
  refine lv_iconst (v := 1) hx hb d_Out_add_27 (by decide) ?_
  refine lv_iadd hx hb d_Out_add_28 ?_
  refine va_put (D := G.1) (ci := 5) (v := .int (v_size + 1)) (ty := .int) (C := R_Out) (T := F_Out) (N := 2) hx hb hts i_Out t_Out t_Out_ok n_Out hown hK hP hD hS 0 rfl rfl 1 (by decide) (hts (.fieldLink R_Out 17 "PrivateQueries$Out" "size" "I") k_40) (fun _ h9 => h9) rfl (by decide +kernel) rfl rfl (Nat.le_of_ble_eq_true rfl) d_Out_add_29 (fun H locs hP hD hS => ?_)
  have hP : va_P G.1 classes [(h, .inr (5, [.ref a_signs, .int (v_size + 1)])), (a_signs, .inl (gC G, 4000, .inl (upd f_signs v_size.toNatClampNeg (vp_nar .char x))))] H := hP
  have hD : va_D A [(h, .inr (5, [.ref a_signs, .int (v_size + 1)])), (a_signs, .inl (gC G, 4000, .inl (upd f_signs v_size.toNatClampNeg (vp_nar .char x))))] := hD
  exact ly_vret hx hb hr hlocks hP hD hS d_Out_add_32 rfl (by rw [s_Out_add, if_neg c1])

set_option maxHeartbeats 4000000 in
set_option maxRecDepth 100000 in
theorem c_Out_addNumber (l : Launch) (G : GG) (h : Nat) (a_signs : Nat) (f_signs : Nat → Int32) (v_size : Int32) (x : Int32) (hz_v_size : up v_size 4000) : Det l G y_Out_addNumber w_Out_addNumber (rmD 1) 0 0 [.ref h, .int x] [(h, .inr (5, [.ref a_signs, .int v_size])), (a_signs, .inl (gC G, 4000, .inl f_signs))] none [(h, .inr (5, [.ref a_signs, .int (lp_Out_addNumber x (((1000000000 : Int32).toInt.toNat) + 1) (1000000000 : Int32) f_signs v_size).1])), (a_signs, .inl (gC G, 4000, .inl (lp_Out_addNumber x (((1000000000 : Int32).toInt.toNat) + 1) (1000000000 : Int32) f_signs v_size).2))] := by
  refine Det.of (cc := b_Out_addNumber) (maxL := 3) (ret := none) (by decide) rfl (Nat.le_of_ble_eq_true rfl) ?_
  intro p e s m args below meth c A ls hx hb hr hml hown hts hlocks hin hA hK hZ hP hD hS hl
  have hts : ∀ w ∈ wG, w.before args s = true := fun w h => hts w (List.mem_cons_of_mem _ h)
  have hown : s.vm.findClass R_Out = some m.cls := hown
  have loop : ∀ (n : Nat) (w : Int32) (g : Nat → Int32) (k : Int32), up k 4000 → w.toInt.toNat < n → ∀ (H : Heap) (locs : List Loc) (ls : Array Slot), va_P G.1 classes [(h, .inr (5, [.ref a_signs, .int k])), (a_signs, .inl (gC G, 4000, .inl g))] H → va_D A [(h, .inr (5, [.ref a_signs, .int k])), (a_signs, .inl (gC G, 4000, .inl g))] → va_S A s.heap H locs → lv_has ls 3 [(2, .int w), (0, .ref h), (1, .int x)] → W p l e (rmD 1) s m args below meth c H locs 0 0 (MQ below (ly_Q G A none [(h, .inr (5, [.ref a_signs, .int (lp_Out_addNumber x n w g k).1])), (a_signs, .inl (gC G, 4000, .inl (lp_Out_addNumber x n w g k).2))]) args s 0 0 A) (F0 m 3 ls []) := by
    intro n
    induction n with
    | zero => intro w g k hk hmu; exact absurd hmu (Nat.not_lt_zero _)
    | succ n ih =>
      intro w g k hk hmu H locs ls hP hD hS hl
      refine lv_iload_n hx hb d_Out_addNumber_3 rfl (lv_at hl 0 rfl) ?_
      refine lv_if_le (tgt := 39) hx hb d_Out_addNumber_4 (by decide) (fun c1 => ?_) (fun c1 => ?_)
      · skip
        exact ly_vret hx hb hr hlocks hP hD hS d_Out_addNumber_39 rfl (by rw [lp_Out_addNumber, if_pos c1])
      refine lv_iload_n hx hb d_Out_addNumber_7 rfl (lv_at hl 2 rfl) ?_
      refine lv_iload_n hx hb d_Out_addNumber_8 rfl (lv_at hl 0 rfl) ?_
      refine lv_icmp_ge (tgt := 17) hx hb d_Out_addNumber_9 (by decide) (fun c2 => ?_) (fun c2 => ?_)
      · skip
        refine lv_aload_n hx hb d_Out_addNumber_17 rfl (lv_at hl 1 rfl) ?_
        refine lv_bipush (v := 48) hx hb d_Out_addNumber_18 (by decide) ?_
        refine lv_iload_n hx hb d_Out_addNumber_20 rfl (lv_at hl 2 rfl) ?_
        refine lv_iload_n hx hb d_Out_addNumber_21 rfl (lv_at hl 0 rfl) ?_
        refine lv_idiv hx hb d_Out_addNumber_22 (ne_pos c1) ?_
        refine lv_bipush (v := 10) hx hb d_Out_addNumber_23 (by decide) ?_
        refine lv_irem hx hb d_Out_addNumber_25 (by decide) ?_
        refine lv_iadd hx hb d_Out_addNumber_26 ?_
        refine lv_i2c (v := ((48 + ((x / w) - (x / w) / 10 * 10)).toUInt32 % 65536).toInt32) hx hb d_Out_addNumber_27 rfl ?_
        obtain ⟨r1, hr1⟩ : ∃ r, (s_Out_add g k (((48 + ((x / w) - (x / w) / 10 * 10)).toUInt32 % 65536).toInt32)) = r := ⟨_, rfl⟩
        have hC_r1 := (c_Out_add l G h a_signs g k (((48 + ((x / w) - (x / w) / 10 * 10)).toUInt32 % 65536).toInt32) hk)
        rw [hr1] at hC_r1
        have hf_r1_1 : up r1.1 4000 := by rw [← hr1]; exact (k_out hk)
        refine ly_callV (rest := []) (wf := [(h, .inr (5, [.ref a_signs, .int r1.1])), (a_signs, .inl (gC G, 4000, .inl r1.2))]) ⟨hx, hb, hml, hown, hts⟩ hA hK hZ hP hD hS hC_r1 (cwV 1 hts g_Out_31 rfl rfl rfl (by decide +kernel) ⟨Nat.le_of_ble_eq_true rfl, Nat.le_of_ble_eq_true rfl⟩) (ci := 5) (q0 := 0) rfl rfl rfl [0, 1] rfl (by decide) rfl rfl rfl hl.1 rfl (Nat.le_of_ble_eq_true rfl) d_Out_addNumber_28 ⟨Nat.le_of_ble_eq_true rfl, Nat.le_of_ble_eq_true rfl⟩ (st1 := []) (c1 := 0) (s1 := 0) rfl rfl rfl (fun H locs hP hD hS => ?_)
        refine lv_iload_n hx hb d_Out_addNumber_31 rfl (lv_at hl 0 rfl) ?_
        refine lv_bipush (v := 10) hx hb d_Out_addNumber_32 (by decide) ?_
        refine lv_idiv hx hb d_Out_addNumber_34 (by decide) ?_
        refine lv_istore_n (lv' := [(2, .int (w / 10)), (0, .ref h), (1, .int x)]) hx hb d_Out_addNumber_35 rfl hl (by decide) rfl (fun ls hl => ?_)
        refine lv_goto (tgt := 3) hx hb d_Out_addNumber_36 (by decide) ?_
        have e_ : lp_Out_addNumber x (n + 1) w g k = lp_Out_addNumber x n (w / 10) r1.2 r1.1 := (by rw [lp_Out_addNumber] <;> simp only [hr1] <;> rw [if_neg c1, if_pos c2])
        rw [e_]
        exact ih (w / 10) r1.2 r1.1 hf_r1_1 (mu_step (mu_ten c1) hmu) _ _ _ hP hD hS (lv_sub hl [0, 1, 2] rfl)
      refine lv_iload_n hx hb d_Out_addNumber_12 rfl (lv_at hl 0 rfl) ?_
      refine lv_iconst (v := 1) hx hb d_Out_addNumber_13 (by decide) ?_
      refine lv_icmp_ne (tgt := 31) hx hb d_Out_addNumber_14 (by decide) (fun c3 => ?_) (fun c3 => ?_)
      · skip
        refine lv_iload_n hx hb d_Out_addNumber_31 rfl (lv_at hl 0 rfl) ?_
        refine lv_bipush (v := 10) hx hb d_Out_addNumber_32 (by decide) ?_
        refine lv_idiv hx hb d_Out_addNumber_34 (by decide) ?_
        refine lv_istore_n (lv' := [(2, .int (w / 10)), (0, .ref h), (1, .int x)]) hx hb d_Out_addNumber_35 rfl hl (by decide) rfl (fun ls hl => ?_)
        refine lv_goto (tgt := 3) hx hb d_Out_addNumber_36 (by decide) ?_
        have e_ : lp_Out_addNumber x (n + 1) w g k = lp_Out_addNumber x n (w / 10) g k := (by rw [lp_Out_addNumber, if_neg c1, if_neg c2, if_neg c3])
        rw [e_]
        exact ih (w / 10) g k hk (mu_step (mu_ten c1) hmu) _ _ _ hP hD hS (lv_sub hl [0, 1, 2] rfl)
      refine lv_aload_n hx hb d_Out_addNumber_17 rfl (lv_at hl 1 rfl) ?_
      refine lv_bipush (v := 48) hx hb d_Out_addNumber_18 (by decide) ?_
      refine lv_iload_n hx hb d_Out_addNumber_20 rfl (lv_at hl 2 rfl) ?_
      refine lv_iload_n hx hb d_Out_addNumber_21 rfl (lv_at hl 0 rfl) ?_
      refine lv_idiv hx hb d_Out_addNumber_22 (ne_pos c1) ?_
      refine lv_bipush (v := 10) hx hb d_Out_addNumber_23 (by decide) ?_
      refine lv_irem hx hb d_Out_addNumber_25 (by decide) ?_
      refine lv_iadd hx hb d_Out_addNumber_26 ?_
      refine lv_i2c (v := ((48 + ((x / w) - (x / w) / 10 * 10)).toUInt32 % 65536).toInt32) hx hb d_Out_addNumber_27 rfl ?_
      obtain ⟨r2, hr2⟩ : ∃ r, (s_Out_add g k (((48 + ((x / w) - (x / w) / 10 * 10)).toUInt32 % 65536).toInt32)) = r := ⟨_, rfl⟩
      have hC_r2 := (c_Out_add l G h a_signs g k (((48 + ((x / w) - (x / w) / 10 * 10)).toUInt32 % 65536).toInt32) hk)
      rw [hr2] at hC_r2
      have hf_r2_1 : up r2.1 4000 := by rw [← hr2]; exact (k_out hk)
      refine ly_callV (rest := []) (wf := [(h, .inr (5, [.ref a_signs, .int r2.1])), (a_signs, .inl (gC G, 4000, .inl r2.2))]) ⟨hx, hb, hml, hown, hts⟩ hA hK hZ hP hD hS hC_r2 (cwV 1 hts g_Out_31 rfl rfl rfl (by decide +kernel) ⟨Nat.le_of_ble_eq_true rfl, Nat.le_of_ble_eq_true rfl⟩) (ci := 5) (q0 := 0) rfl rfl rfl [0, 1] rfl (by decide) rfl rfl rfl hl.1 rfl (Nat.le_of_ble_eq_true rfl) d_Out_addNumber_28 ⟨Nat.le_of_ble_eq_true rfl, Nat.le_of_ble_eq_true rfl⟩ (st1 := []) (c1 := 0) (s1 := 0) rfl rfl rfl (fun H locs hP hD hS => ?_)
      refine lv_iload_n hx hb d_Out_addNumber_31 rfl (lv_at hl 0 rfl) ?_
      refine lv_bipush (v := 10) hx hb d_Out_addNumber_32 (by decide) ?_
      refine lv_idiv hx hb d_Out_addNumber_34 (by decide) ?_
      refine lv_istore_n (lv' := [(2, .int (w / 10)), (0, .ref h), (1, .int x)]) hx hb d_Out_addNumber_35 rfl hl (by decide) rfl (fun ls hl => ?_)
      refine lv_goto (tgt := 3) hx hb d_Out_addNumber_36 (by decide) ?_
      have e_ : lp_Out_addNumber x (n + 1) w g k = lp_Out_addNumber x n (w / 10) r2.2 r2.1 := (by rw [lp_Out_addNumber] <;> simp only [hr2] <;> rw [if_neg c1, if_neg c2, if_pos c3])
      rw [e_]
      exact ih (w / 10) r2.2 r2.1 hf_r2_1 (mu_step (mu_ten c1) hmu) _ _ _ hP hD hS (lv_sub hl [0, 1, 2] rfl)
  have hl : lv_has ls 3 [(0, .ref h), (1, .int x)] := hl
  refine lv_ldc (v := 1000000000) hx hb hown (hts (.constant R_Out 35 1000000000) k_42) d_Out_addNumber_0 ?_
  refine lv_istore_n (lv' := [(2, .int 1000000000), (0, .ref h), (1, .int x)]) hx hb d_Out_addNumber_2 rfl hl (by decide) rfl (fun ls hl => ?_)
  exact loop (((1000000000 : Int32).toInt.toNat) + 1) (1000000000 : Int32) f_signs v_size hz_v_size (Nat.lt_succ_self _) _ _ _ hP hD hS (lv_sub hl [0, 1, 2] rfl)
