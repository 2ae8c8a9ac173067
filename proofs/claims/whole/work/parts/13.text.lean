theorem d_Text_byteOf_0 : decode b_Text_byteOf 0 = .ok (.lload_n 0, 1) := by decide +kernel
theorem d_Text_byteOf_1 : decode b_Text_byteOf 1 = .ok (.bipush 8, 2) := by decide +kernel
theorem d_Text_byteOf_3 : decode b_Text_byteOf 3 = .ok (.iload_n 2, 1) := by decide +kernel
theorem d_Text_byteOf_4 : decode b_Text_byteOf 4 = .ok (.imul, 1) := by decide +kernel
theorem d_Text_byteOf_5 : decode b_Text_byteOf 5 = .ok (.lushr, 1) := by decide +kernel
theorem d_Text_byteOf_6 : decode b_Text_byteOf 6 = .ok (.l2i, 1) := by decide +kernel
theorem d_Text_byteOf_7 : decode b_Text_byteOf 7 = .ok (.sipush 255, 3) := by decide +kernel
theorem d_Text_byteOf_10 : decode b_Text_byteOf 10 = .ok (.iand, 1) := by decide +kernel
theorem d_Text_byteOf_11 : decode b_Text_byteOf 11 = .ok (.ireturn, 1) := by decide +kernel
theorem d_Text_size_0 : decode b_Text_size 0 = .ok (.aload_n 0, 1) := by decide +kernel
theorem d_Text_size_1 : decode b_Text_size 1 = .ok (.getfield 13, 3) := by decide +kernel
theorem d_Text_size_4 : decode b_Text_size 4 = .ok (.ireturn, 1) := by decide +kernel
theorem d_Text_clear_0 : decode b_Text_clear 0 = .ok (.aload_n 0, 1) := by decide +kernel
theorem d_Text_clear_1 : decode b_Text_clear 1 = .ok (.iconst 0, 1) := by decide +kernel
theorem d_Text_clear_2 : decode b_Text_clear 2 = .ok (.putfield 13, 3) := by decide +kernel
theorem d_Text_clear_5 : decode b_Text_clear 5 = .ok (.return_, 1) := by decide +kernel
theorem d_Text_at_0 : decode b_Text_at 0 = .ok (.iload_n 1, 1) := by decide +kernel
theorem d_Text_at_1 : decode b_Text_at 1 = .ok (.ifCond .lt 20, 3) := by decide +kernel
theorem d_Text_at_4 : decode b_Text_at 4 = .ok (.iload_n 1, 1) := by decide +kernel
theorem d_Text_at_5 : decode b_Text_at 5 = .ok (.aload_n 0, 1) := by decide +kernel
theorem d_Text_at_6 : decode b_Text_at 6 = .ok (.getfield 13, 3) := by decide +kernel
theorem d_Text_at_9 : decode b_Text_at 9 = .ok (.if_icmp .ge 12, 3) := by decide +kernel
theorem d_Text_at_12 : decode b_Text_at 12 = .ok (.aload_n 0, 1) := by decide +kernel
theorem d_Text_at_13 : decode b_Text_at 13 = .ok (.getfield 9, 3) := by decide +kernel
theorem d_Text_at_16 : decode b_Text_at 16 = .ok (.iload_n 1, 1) := by decide +kernel
theorem d_Text_at_17 : decode b_Text_at 17 = .ok (.caload, 1) := by decide +kernel
theorem d_Text_at_18 : decode b_Text_at 18 = .ok (.goto 4, 3) := by decide +kernel
theorem d_Text_at_21 : decode b_Text_at 21 = .ok (.iconst 0, 1) := by decide +kernel
theorem d_Text_at_22 : decode b_Text_at 22 = .ok (.ireturn, 1) := by decide +kernel
theorem d_Text_isLetter_0 : decode b_Text_isLetter 0 = .ok (.aload_n 0, 1) := by decide +kernel
theorem d_Text_isLetter_1 : decode b_Text_isLetter 1 = .ok (.iload_n 1, 1) := by decide +kernel
theorem d_Text_isLetter_2 : decode b_Text_isLetter 2 = .ok (.invokevirtual 21, 3) := by decide +kernel
theorem d_Text_isLetter_5 : decode b_Text_isLetter 5 = .ok (.istore_n 2, 1) := by decide +kernel
theorem d_Text_isLetter_6 : decode b_Text_isLetter 6 = .ok (.iload_n 2, 1) := by decide +kernel
theorem d_Text_isLetter_7 : decode b_Text_isLetter 7 = .ok (.bipush 97, 2) := by decide +kernel
theorem d_Text_isLetter_9 : decode b_Text_isLetter 9 = .ok (.if_icmp .lt 13, 3) := by decide +kernel
theorem d_Text_isLetter_12 : decode b_Text_isLetter 12 = .ok (.iload_n 2, 1) := by decide +kernel
theorem d_Text_isLetter_13 : decode b_Text_isLetter 13 = .ok (.bipush 122, 2) := by decide +kernel
theorem d_Text_isLetter_15 : decode b_Text_isLetter 15 = .ok (.if_icmp .gt 7, 3) := by decide +kernel
theorem d_Text_isLetter_18 : decode b_Text_isLetter 18 = .ok (.iconst 1, 1) := by decide +kernel
theorem d_Text_isLetter_19 : decode b_Text_isLetter 19 = .ok (.goto 4, 3) := by decide +kernel
theorem d_Text_isLetter_22 : decode b_Text_isLetter 22 = .ok (.iconst 0, 1) := by decide +kernel
theorem d_Text_isLetter_23 : decode b_Text_isLetter 23 = .ok (.ireturn, 1) := by decide +kernel
theorem d_Text_isDigit_0 : decode b_Text_isDigit 0 = .ok (.aload_n 0, 1) := by decide +kernel
theorem d_Text_isDigit_1 : decode b_Text_isDigit 1 = .ok (.iload_n 1, 1) := by decide +kernel
theorem d_Text_isDigit_2 : decode b_Text_isDigit 2 = .ok (.invokevirtual 21, 3) := by decide +kernel
theorem d_Text_isDigit_5 : decode b_Text_isDigit 5 = .ok (.istore_n 2, 1) := by decide +kernel
theorem d_Text_isDigit_6 : decode b_Text_isDigit 6 = .ok (.iload_n 2, 1) := by decide +kernel
theorem d_Text_isDigit_7 : decode b_Text_isDigit 7 = .ok (.bipush 48, 2) := by decide +kernel
theorem d_Text_isDigit_9 : decode b_Text_isDigit 9 = .ok (.if_icmp .lt 13, 3) := by decide +kernel
theorem d_Text_isDigit_12 : decode b_Text_isDigit 12 = .ok (.iload_n 2, 1) := by decide +kernel
theorem d_Text_isDigit_13 : decode b_Text_isDigit 13 = .ok (.bipush 57, 2) := by decide +kernel
theorem d_Text_isDigit_15 : decode b_Text_isDigit 15 = .ok (.if_icmp .gt 7, 3) := by decide +kernel
theorem d_Text_isDigit_18 : decode b_Text_isDigit 18 = .ok (.iconst 1, 1) := by decide +kernel
theorem d_Text_isDigit_19 : decode b_Text_isDigit 19 = .ok (.goto 4, 3) := by decide +kernel
theorem d_Text_isDigit_22 : decode b_Text_isDigit 22 = .ok (.iconst 0, 1) := by decide +kernel
theorem d_Text_isDigit_23 : decode b_Text_isDigit 23 = .ok (.ireturn, 1) := by decide +kernel
theorem d_Text_areSigns_0 : decode b_Text_areSigns 0 = .ok (.iconst 0, 1) := by decide +kernel
theorem d_Text_areSigns_1 : decode b_Text_areSigns 1 = .ok (.istore_n 3, 1) := by decide +kernel
theorem d_Text_areSigns_2 : decode b_Text_areSigns 2 = .ok (.iload_n 3, 1) := by decide +kernel
theorem d_Text_areSigns_3 : decode b_Text_areSigns 3 = .ok (.iload_n 2, 1) := by decide +kernel
theorem d_Text_areSigns_4 : decode b_Text_areSigns 4 = .ok (.if_icmp .ge 32, 3) := by decide +kernel
theorem d_Text_areSigns_7 : decode b_Text_areSigns 7 = .ok (.lload_n 0, 1) := by decide +kernel
theorem d_Text_areSigns_8 : decode b_Text_areSigns 8 = .ok (.iload_n 3, 1) := by decide +kernel
theorem d_Text_areSigns_9 : decode b_Text_areSigns 9 = .ok (.invokestatic 17, 3) := by decide +kernel
theorem d_Text_areSigns_12 : decode b_Text_areSigns 12 = .ok (.istore 4, 2) := by decide +kernel
theorem d_Text_areSigns_14 : decode b_Text_areSigns 14 = .ok (.iload 4, 2) := by decide +kernel
theorem d_Text_areSigns_16 : decode b_Text_areSigns 16 = .ok (.bipush 32, 2) := by decide +kernel
theorem d_Text_areSigns_18 : decode b_Text_areSigns 18 = .ok (.if_icmp .lt 10, 3) := by decide +kernel
theorem d_Text_areSigns_21 : decode b_Text_areSigns 21 = .ok (.iload 4, 2) := by decide +kernel
theorem d_Text_areSigns_23 : decode b_Text_areSigns 23 = .ok (.bipush 126, 2) := by decide +kernel
theorem d_Text_areSigns_25 : decode b_Text_areSigns 25 = .ok (.if_icmp .le 5, 3) := by decide +kernel
theorem d_Text_areSigns_28 : decode b_Text_areSigns 28 = .ok (.iconst 0, 1) := by decide +kernel
theorem d_Text_areSigns_29 : decode b_Text_areSigns 29 = .ok (.ireturn, 1) := by decide +kernel
theorem d_Text_areSigns_30 : decode b_Text_areSigns 30 = .ok (.iinc 3 1, 3) := by decide +kernel
theorem d_Text_areSigns_33 : decode b_Text_areSigns 33 = .ok (.goto (-31), 3) := by decide +kernel
theorem d_Text_areSigns_36 : decode b_Text_areSigns 36 = .ok (.iconst 1, 1) := by decide +kernel
theorem d_Text_areSigns_37 : decode b_Text_areSigns 37 = .ok (.ireturn, 1) := by decide +kernel
theorem d_Text_add_0 : decode b_Text_add 0 = .ok (.iload_n 3, 1) := by decide +kernel
theorem d_Text_add_1 : decode b_Text_add 1 = .ok (.iconst 1, 1) := by decide +kernel
theorem d_Text_add_2 : decode b_Text_add 2 = .ok (.isub, 1) := by decide +kernel
theorem d_Text_add_3 : decode b_Text_add 3 = .ok (.istore 4, 2) := by decide +kernel
theorem d_Text_add_5 : decode b_Text_add 5 = .ok (.iload 4, 2) := by decide +kernel
theorem d_Text_add_7 : decode b_Text_add 7 = .ok (.ifCond .lt 47, 3) := by decide +kernel
theorem d_Text_add_10 : decode b_Text_add 10 = .ok (.aload_n 0, 1) := by decide +kernel
theorem d_Text_add_11 : decode b_Text_add 11 = .ok (.getfield 13, 3) := by decide +kernel
theorem d_Text_add_14 : decode b_Text_add 14 = .ok (.aload_n 0, 1) := by decide +kernel
theorem d_Text_add_15 : decode b_Text_add 15 = .ok (.getfield 9, 3) := by decide +kernel
theorem d_Text_add_18 : decode b_Text_add 18 = .ok (.arraylength, 1) := by decide +kernel
theorem d_Text_add_19 : decode b_Text_add 19 = .ok (.if_icmp .ge 35, 3) := by decide +kernel
theorem d_Text_add_22 : decode b_Text_add 22 = .ok (.aload_n 0, 1) := by decide +kernel
theorem d_Text_add_23 : decode b_Text_add 23 = .ok (.getfield 9, 3) := by decide +kernel
theorem d_Text_add_26 : decode b_Text_add 26 = .ok (.aload_n 0, 1) := by decide +kernel
theorem d_Text_add_27 : decode b_Text_add 27 = .ok (.getfield 13, 3) := by decide +kernel
theorem d_Text_add_30 : decode b_Text_add 30 = .ok (.lload_n 1, 1) := by decide +kernel
theorem d_Text_add_31 : decode b_Text_add 31 = .ok (.iload 4, 2) := by decide +kernel
theorem d_Text_add_33 : decode b_Text_add 33 = .ok (.invokestatic 17, 3) := by decide +kernel
theorem d_Text_add_36 : decode b_Text_add 36 = .ok (.i2c, 1) := by decide +kernel
theorem d_Text_add_37 : decode b_Text_add 37 = .ok (.castore, 1) := by decide +kernel
theorem d_Text_add_38 : decode b_Text_add 38 = .ok (.aload_n 0, 1) := by decide +kernel
theorem d_Text_add_39 : decode b_Text_add 39 = .ok (.dup, 1) := by decide +kernel
theorem d_Text_add_40 : decode b_Text_add 40 = .ok (.getfield 13, 3) := by decide +kernel
theorem d_Text_add_43 : decode b_Text_add 43 = .ok (.iconst 1, 1) := by decide +kernel
theorem d_Text_add_44 : decode b_Text_add 44 = .ok (.iadd, 1) := by decide +kernel
theorem d_Text_add_45 : decode b_Text_add 45 = .ok (.putfield 13, 3) := by decide +kernel
theorem d_Text_add_48 : decode b_Text_add 48 = .ok (.iinc 4 (-1), 3) := by decide +kernel
theorem d_Text_add_51 : decode b_Text_add 51 = .ok (.goto (-46), 3) := by decide +kernel
theorem d_Text_add_54 : decode b_Text_add 54 = .ok (.return_, 1) := by decide +kernel
theorem k_30 : (.fieldLink R_Text 13 "PrivateQueries$Text" "size" "I" : Cond) ∈ wG := wGm 175 (by decide +kernel) (by decide +kernel)
theorem k_31 : (.fieldLink R_Text 9 "PrivateQueries$Text" "signs" "[C" : Cond) ∈ wG := wGm 174 (by decide +kernel) (by decide +kernel)
theorem k_32 : (.methodLink R_Text 21 y_Text_at : Cond) ∈ wG := wGm 497 (by decide +kernel) (by decide +kernel)
theorem k_33 : (.instanceMethod y_Text_at : Cond) ∈ wG := wGm 486 (by decide +kernel) (by decide +kernel)
theorem k_34 : (.selects R_Text y_Text_at y_Text_at : Cond) ∈ wG := wGm 487 (by decide +kernel) (by decide +kernel)
theorem k_35 : (.initialized R_Text : Cond) ∈ wG := wGm 90 (by decide +kernel) (by decide +kernel)
theorem k_36 : (.code y_Text_at b_Text_at 2 (some .char) : Cond) ∈ wG := wGm 488 (by decide +kernel) (by decide +kernel)
theorem k_37 : (.methodLink R_Text 17 y_Text_byteOf : Cond) ∈ wG := wGm 465 (by decide +kernel) (by decide +kernel)
theorem k_38 : (.static y_Text_byteOf : Cond) ∈ wG := wGm 466 (by decide +kernel) (by decide +kernel)
theorem k_39 : (.code y_Text_byteOf b_Text_byteOf 3 (some .int) : Cond) ∈ wG := wGm 467 (by decide +kernel) (by decide +kernel)
theorem g_Text_21 : GoodIn wG (wsV R_Text 21 R_Text y_Text_at w_Text_at) := wGa (fun w hw => by
  rcases List.mem_cons.mp hw with e | hw
  · exact e ▸ k_32
  rcases List.mem_cons.mp hw with e | hw
  · exact e ▸ k_33
  rcases List.mem_cons.mp hw with e | hw
  · exact e ▸ k_34
  rcases List.mem_cons.mp hw with e | hw
  · exact e ▸ k_35
  · exact absurd hw List.not_mem_nil) (wGc k_36)
theorem g_Text_17 : GoodIn wG (wsS R_Text 17 y_Text_byteOf w_Text_byteOf) := wGa (fun w hw => by
  rcases List.mem_cons.mp hw with e | hw
  · exact e ▸ k_37
  rcases List.mem_cons.mp hw with e | hw
  · exact e ▸ k_38
  rcases List.mem_cons.mp hw with e | hw
  · exact e ▸ k_35
  · exact absurd hw List.not_mem_nil) (wGc k_39)
set_option maxHeartbeats 4000000 in
set_option maxRecDepth 100000 in
theorem c_Text_byteOf (l : Launch) (G : GG)  (x : Int64) (z : Int32) : Det l G y_Text_byteOf w_Text_byteOf (rmD 0) 0 0 [.long x, .int z] [] (some (.int (s_Text_byteOf x z))) [] := by
  refine Det.of (cc := b_Text_byteOf) (maxL := 3) (ret := (some .int)) (by decide) rfl (Nat.le_of_ble_eq_true rfl) ?_
  intro p e s m args below meth c A ls hx hb hr hml hown hts hlocks hin hA hK hZ hP hD hS hl
  have hts : ∀ w ∈ wG, w.before args s = true := fun w h => hts w (List.mem_cons_of_mem _ h)
  have hown : s.vm.findClass R_Text = some m.cls := hown
  have hl : lv_has ls 3 [(0, .long x), (2, .int z)] := hl
  refine lv_lload_n hx hb d_Text_byteOf_0 rfl (lv_at hl 0 rfl) ?_
  refine lv_bipush (v := 8) hx hb d_Text_byteOf_1 (by decide) ?_
  refine lv_iload_n hx hb d_Text_byteOf_3 rfl (lv_at hl 1 rfl) ?_
  refine lv_imul hx hb d_Text_byteOf_4 ?_
  refine lv_lushr (v := (x.toUInt64 >>> ((8 * z).toInt64.toUInt64 &&& Int64.toUInt64 63)).toInt64) hx hb d_Text_byteOf_5 rfl ?_
  refine lv_l2i (v := ((x.toUInt64 >>> ((8 * z).toInt64.toUInt64 &&& Int64.toUInt64 63)).toInt64).toInt32) hx hb d_Text_byteOf_6 rfl ?_
  refine lv_sipush (v := 255) hx hb d_Text_byteOf_7 (by decide) ?_
  refine lv_iand hx hb d_Text_byteOf_10 ?_
  exact ly_iret hx hb hr hlocks hP hD hS d_Text_byteOf_11 (by rw [s_Text_byteOf]) rfl

set_option maxHeartbeats 4000000 in
set_option maxRecDepth 100000 in
theorem c_Text_size (l : Launch) (G : GG) (h : Nat) (a_signs : Nat) (v_size : Int32) : Det l G y_Text_size w_Text_size (rmD 0) 0 0 [.ref h] [(h, .inr (4, [.ref a_signs, .int v_size]))] (some (.int v_size)) [(h, .inr (4, [.ref a_signs, .int v_size]))] := by
  refine Det.of (cc := b_Text_size) (maxL := 1) (ret := (some .int)) (by decide) rfl (Nat.le_of_ble_eq_true rfl) ?_
  intro p e s m args below meth c A ls hx hb hr hml hown hts hlocks hin hA hK hZ hP hD hS hl
  have hts : ∀ w ∈ wG, w.before args s = true := fun w h => hts w (List.mem_cons_of_mem _ h)
  have hown : s.vm.findClass R_Text = some m.cls := hown
  have hl : lv_has ls 1 [(0, .ref h)] := hl
  refine lv_aload_n hx hb d_Text_size_0 rfl (lv_at hl 0 rfl) ?_
  refine va_get (D := G.1) (ci := 4) (C := R_Text) (T := F_Text) (N := 2) (v := .int v_size) hx hb hts i_Text hown hK hP 0 rfl rfl 1 (by decide) (hts (.fieldLink R_Text 13 "PrivateQueries$Text" "size" "I") k_30) (fun _ h9 => h9) rfl d_Text_size_1 ?_
  exact ly_iret hx hb hr hlocks hP hD hS d_Text_size_4 rfl rfl

set_option maxHeartbeats 4000000 in
set_option maxRecDepth 100000 in
theorem c_Text_clear (l : Launch) (G : GG) (h : Nat) (a_signs : Nat) (v_size : Int32) : Det l G y_Text_clear w_Text_clear (rmD 0) 0 0 [.ref h] [(h, .inr (4, [.ref a_signs, .int v_size]))] none [(h, .inr (4, [.ref a_signs, .int 0]))] := by
  refine Det.of (cc := b_Text_clear) (maxL := 1) (ret := none) (by decide) rfl (Nat.le_of_ble_eq_true rfl) ?_
  intro p e s m args below meth c A ls hx hb hr hml hown hts hlocks hin hA hK hZ hP hD hS hl
  have hts : ∀ w ∈ wG, w.before args s = true := fun w h => hts w (List.mem_cons_of_mem _ h)
  have hown : s.vm.findClass R_Text = some m.cls := hown
  have hl : lv_has ls 1 [(0, .ref h)] := hl
  refine lv_aload_n hx hb d_Text_clear_0 rfl (lv_at hl 0 rfl) ?_
  refine lv_iconst (v := 0) hx hb d_Text_clear_1 (by decide) ?_
  refine va_put (D := G.1) (ci := 4) (v := .int 0) (ty := .int) (C := R_Text) (T := F_Text) (N := 2) hx hb hts i_Text t_Text t_Text_ok n_Text hown hK hP hD hS 0 rfl rfl 1 (by decide) (hts (.fieldLink R_Text 13 "PrivateQueries$Text" "size" "I") k_30) (fun _ h9 => h9) rfl (by decide +kernel) rfl rfl (Nat.le_of_ble_eq_true rfl) d_Text_clear_2 (fun H locs hP hD hS => ?_)
  have hP : va_P G.1 classes [(h, .inr (4, [.ref a_signs, .int 0]))] H := hP
  have hD : va_D A [(h, .inr (4, [.ref a_signs, .int 0]))] := hD
  exact ly_vret hx hb hr hlocks hP hD hS d_Text_clear_5 rfl rfl

set_option maxHeartbeats 4000000 in
set_option maxRecDepth 100000 in
theorem c_Text_at (l : Launch) (G : GG) (h : Nat) (a_signs : Nat) (f_signs : Nat → Int32) (v_size : Int32) (x : Int32) (hz_v_size : up v_size 2000) (hch : chF f_signs) : Det l G y_Text_at w_Text_at (rmD 0) 0 0 [.ref h, .int x] [(h, .inr (4, [.ref a_signs, .int v_size])), (a_signs, .inl (gC G, 2000, .inl f_signs))] (some (.int (s_Text_at f_signs v_size x))) [(h, .inr (4, [.ref a_signs, .int v_size])), (a_signs, .inl (gC G, 2000, .inl f_signs))] := by
  refine Det.of (cc := b_Text_at) (maxL := 2) (ret := (some .char)) (by decide) rfl (Nat.le_of_ble_eq_true rfl) ?_
  intro p e s m args below meth c A ls hx hb hr hml hown hts hlocks hin hA hK hZ hP hD hS hl
  have hts : ∀ w ∈ wG, w.before args s = true := fun w h => hts w (List.mem_cons_of_mem _ h)
  have hown : s.vm.findClass R_Text = some m.cls := hown
  have hl : lv_has ls 2 [(0, .ref h), (1, .int x)] := hl
  refine lv_iload_n hx hb d_Text_at_0 rfl (lv_at hl 1 rfl) ?_
  refine lv_if_lt (tgt := 21) hx hb d_Text_at_1 (by decide) (fun c1 => ?_) (fun c1 => ?_)
  · skip
    refine lv_iconst (v := 0) hx hb d_Text_at_21 (by decide) ?_
    exact ly_zret hx hb hr hlocks hP hD hS d_Text_at_22 (by first | decide | exact hch _) (by rw [s_Text_at, if_pos c1]) rfl
  refine lv_iload_n hx hb d_Text_at_4 rfl (lv_at hl 1 rfl) ?_
  refine lv_aload_n hx hb d_Text_at_5 rfl (lv_at hl 0 rfl) ?_
  refine va_get (D := G.1) (ci := 4) (C := R_Text) (T := F_Text) (N := 2) (v := .int v_size) hx hb hts i_Text hown hK hP 0 rfl rfl 1 (by decide) (hts (.fieldLink R_Text 13 "PrivateQueries$Text" "size" "I") k_30) (fun _ h9 => h9) rfl d_Text_at_6 ?_
  refine lv_icmp_ge (tgt := 21) hx hb d_Text_at_9 (by decide) (fun c2 => ?_) (fun c2 => ?_)
  · skip
    refine lv_iconst (v := 0) hx hb d_Text_at_21 (by decide) ?_
    exact ly_zret hx hb hr hlocks hP hD hS d_Text_at_22 (by first | decide | exact hch _) (by rw [s_Text_at, if_neg c1, if_pos c2]) rfl
  refine lv_aload_n hx hb d_Text_at_12 rfl (lv_at hl 0 rfl) ?_
  refine va_get (D := G.1) (ci := 4) (C := R_Text) (T := F_Text) (N := 2) (v := .ref a_signs) hx hb hts i_Text hown hK hP 0 rfl rfl 0 (by decide) (hts (.fieldLink R_Text 9 "PrivateQueries$Text" "signs" "[C") k_31) (fun _ h9 => h9) rfl d_Text_at_13 ?_
  refine lv_iload_n hx hb d_Text_at_16 rfl (lv_at hl 1 rfl) ?_
  refine va_cald hx hb hK hP 1 1 rfl rfl (ly_mk (ly_lo c1) (ly_hiV hz_v_size.2 c2)) d_Text_at_17 ?_
  refine lv_goto (tgt := 22) hx hb d_Text_at_18 (by decide) ?_
  exact ly_zret hx hb hr hlocks hP hD hS d_Text_at_22 (by first | decide | exact hch _) (by rw [s_Text_at, if_neg c1, if_neg c2]) rfl

theorem z_Text_isLetter {f_signs : Nat → Int32} {v_size : Int32} {x : Int32} : isB (s_Text_isLetter f_signs v_size x) := by
  obtain ⟨r1, hr1⟩ : ∃ r, (s_Text_at f_signs v_size x) = r := ⟨_, rfl⟩
  rw [s_Text_isLetter]
  simp only [hr1]
  by_cases ct1 : r1 < 97
  · rw [if_pos ct1]
    first | exact isB_0 | exact isB_1 | assumption
  rw [if_neg ct1]
  by_cases ct2 : 122 < r1
  · rw [if_pos ct2]
    first | exact isB_0 | exact isB_1 | assumption
  rw [if_neg ct2]
  first | exact isB_0 | exact isB_1 | assumption
set_option maxHeartbeats 4000000 in
set_option maxRecDepth 100000 in
theorem c_Text_isLetter (l : Launch) (G : GG) (h : Nat) (a_signs : Nat) (f_signs : Nat → Int32) (v_size : Int32) (x : Int32) (hz_v_size : up v_size 2000) (hch : chF f_signs) : Det l G y_Text_isLetter w_Text_isLetter (rmD 1) 0 0 [.ref h, .int x] [(h, .inr (4, [.ref a_signs, .int v_size])), (a_signs, .inl (gC G, 2000, .inl f_signs))] (some (.int (s_Text_isLetter f_signs v_size x))) [(h, .inr (4, [.ref a_signs, .int v_size])), (a_signs, .inl (gC G, 2000, .inl f_signs))] := by
  refine Det.of (cc := b_Text_isLetter) (maxL := 3) (ret := (some .boolean)) (by decide) rfl (Nat.le_of_ble_eq_true rfl) ?_
  intro p e s m args below meth c A ls hx hb hr hml hown hts hlocks hin hA hK hZ hP hD hS hl
  have hts : ∀ w ∈ wG, w.before args s = true := fun w h => hts w (List.mem_cons_of_mem _ h)
  have hown : s.vm.findClass R_Text = some m.cls := hown
  have hl : lv_has ls 3 [(0, .ref h), (1, .int x)] := hl
  refine lv_aload_n hx hb d_Text_isLetter_0 rfl (lv_at hl 0 rfl) ?_
  refine lv_iload_n hx hb d_Text_isLetter_1 rfl (lv_at hl 1 rfl) ?_
  obtain ⟨r1, hr1⟩ : ∃ r, (s_Text_at f_signs v_size x) = r := ⟨_, rfl⟩
  have hC_r1 := (c_Text_at l G h a_signs f_signs v_size x hz_v_size hch)
  rw [hr1] at hC_r1
  refine ly_callV (rest := []) (wf := [(h, .inr (4, [.ref a_signs, .int v_size])), (a_signs, .inl (gC G, 2000, .inl f_signs))]) ⟨hx, hb, hml, hown, hts⟩ hA hK hZ hP hD hS hC_r1 (cwV 1 hts g_Text_21 rfl rfl rfl (by decide +kernel) ⟨Nat.le_of_ble_eq_true rfl, Nat.le_of_ble_eq_true rfl⟩) (ci := 4) (q0 := 0) rfl rfl rfl [0, 1] rfl (by decide) rfl rfl rfl hl.1 rfl (Nat.le_of_ble_eq_true rfl) d_Text_isLetter_2 ⟨Nat.le_of_ble_eq_true rfl, Nat.le_of_ble_eq_true rfl⟩ (st1 := [.int r1]) (c1 := 0) (s1 := 0) rfl rfl rfl (fun H locs hP hD hS => ?_)
  refine lv_istore_n (lv' := [(2, .int r1), (0, .ref h), (1, .int x)]) hx hb d_Text_isLetter_5 rfl hl (by decide) rfl (fun ls hl => ?_)
  refine lv_iload_n hx hb d_Text_isLetter_6 rfl (lv_at hl 0 rfl) ?_
  refine lv_bipush (v := 97) hx hb d_Text_isLetter_7 (by decide) ?_
  refine lv_icmp_lt (tgt := 22) hx hb d_Text_isLetter_9 (by decide) (fun c1 => ?_) (fun c1 => ?_)
  · skip
    refine lv_iconst (v := 0) hx hb d_Text_isLetter_22 (by decide) ?_
    exact ly_zret hx hb hr hlocks hP hD hS d_Text_isLetter_23 (by decide) (by rw [s_Text_isLetter] <;> simp only [hr1] <;> rw [if_pos c1]) rfl
  refine lv_iload_n hx hb d_Text_isLetter_12 rfl (lv_at hl 0 rfl) ?_
  refine lv_bipush (v := 122) hx hb d_Text_isLetter_13 (by decide) ?_
  refine lv_icmp_gt (tgt := 22) hx hb d_Text_isLetter_15 (by decide) (fun c2 => ?_) (fun c2 => ?_)
  · skip
    refine lv_iconst (v := 0) hx hb d_Text_isLetter_22 (by decide) ?_
    exact ly_zret hx hb hr hlocks hP hD hS d_Text_isLetter_23 (by decide) (by rw [s_Text_isLetter] <;> simp only [hr1] <;> rw [if_neg c1, if_pos c2]) rfl
  refine lv_iconst (v := 1) hx hb d_Text_isLetter_18 (by decide) ?_
  refine lv_goto (tgt := 23) hx hb d_Text_isLetter_19 (by decide) ?_
  exact ly_zret hx hb hr hlocks hP hD hS d_Text_isLetter_23 (by decide) (by rw [s_Text_isLetter] <;> simp only [hr1] <;> rw [if_neg c1, if_neg c2]) rfl

theorem z_Text_isDigit {f_signs : Nat → Int32} {v_size : Int32} {x : Int32} : isB (s_Text_isDigit f_signs v_size x) := by
  obtain ⟨r1, hr1⟩ : ∃ r, (s_Text_at f_signs v_size x) = r := ⟨_, rfl⟩
  rw [s_Text_isDigit]
  simp only [hr1]
  by_cases ct1 : r1 < 48
  · rw [if_pos ct1]
    first | exact isB_0 | exact isB_1 | assumption
  rw [if_neg ct1]
  by_cases ct2 : 57 < r1
  · rw [if_pos ct2]
    first | exact isB_0 | exact isB_1 | assumption
  rw [if_neg ct2]
  first | exact isB_0 | exact isB_1 | assumption
set_option maxHeartbeats 4000000 in
set_option maxRecDepth 100000 in
theorem c_Text_isDigit (l : Launch) (G : GG) (h : Nat) (a_signs : Nat) (f_signs : Nat → Int32) (v_size : Int32) (x : Int32) (hz_v_size : up v_size 2000) (hch : chF f_signs) : Det l G y_Text_isDigit w_Text_isDigit (rmD 1) 0 0 [.ref h, .int x] [(h, .inr (4, [.ref a_signs, .int v_size])), (a_signs, .inl (gC G, 2000, .inl f_signs))] (some (.int (s_Text_isDigit f_signs v_size x))) [(h, .inr (4, [.ref a_signs, .int v_size])), (a_signs, .inl (gC G, 2000, .inl f_signs))] := by
  refine Det.of (cc := b_Text_isDigit) (maxL := 3) (ret := (some .boolean)) (by decide) rfl (Nat.le_of_ble_eq_true rfl) ?_
  intro p e s m args below meth c A ls hx hb hr hml hown hts hlocks hin hA hK hZ hP hD hS hl
  have hts : ∀ w ∈ wG, w.before args s = true := fun w h => hts w (List.mem_cons_of_mem _ h)
  have hown : s.vm.findClass R_Text = some m.cls := hown
  have hl : lv_has ls 3 [(0, .ref h), (1, .int x)] := hl
  refine lv_aload_n hx hb d_Text_isDigit_0 rfl (lv_at hl 0 rfl) ?_
  refine lv_iload_n hx hb d_Text_isDigit_1 rfl (lv_at hl 1 rfl) ?_
  obtain ⟨r1, hr1⟩ : ∃ r, (s_Text_at f_signs v_size x) = r := ⟨_, rfl⟩
  have hC_r1 := (c_Text_at l G h a_signs f_signs v_size x hz_v_size hch)
  rw [hr1] at hC_r1
  refine ly_callV (rest := []) (wf := [(h, .inr (4, [.ref a_signs, .int v_size])), (a_signs, .inl (gC G, 2000, .inl f_signs))]) ⟨hx, hb, hml, hown, hts⟩ hA hK hZ hP hD hS hC_r1 (cwV 1 hts g_Text_21 rfl rfl rfl (by decide +kernel) ⟨Nat.le_of_ble_eq_true rfl, Nat.le_of_ble_eq_true rfl⟩) (ci := 4) (q0 := 0) rfl rfl rfl [0, 1] rfl (by decide) rfl rfl rfl hl.1 rfl (Nat.le_of_ble_eq_true rfl) d_Text_isDigit_2 ⟨Nat.le_of_ble_eq_true rfl, Nat.le_of_ble_eq_true rfl⟩ (st1 := [.int r1]) (c1 := 0) (s1 := 0) rfl rfl rfl (fun H locs hP hD hS => ?_)
  refine lv_istore_n (lv' := [(2, .int r1), (0, .ref h), (1, .int x)]) hx hb d_Text_isDigit_5 rfl hl (by decide) rfl (fun ls hl => ?_)
  refine lv_iload_n hx hb d_Text_isDigit_6 rfl (lv_at hl 0 rfl) ?_
  refine lv_bipush (v := 48) hx hb d_Text_isDigit_7 (by decide) ?_
  refine lv_icmp_lt (tgt := 22) hx hb d_Text_isDigit_9 (by decide) (fun c1 => ?_) (fun c1 => ?_)
  · skip
    refine lv_iconst (v := 0) hx hb d_Text_isDigit_22 (by decide) ?_
    exact ly_zret hx hb hr hlocks hP hD hS d_Text_isDigit_23 (by decide) (by rw [s_Text_isDigit] <;> simp only [hr1] <;> rw [if_pos c1]) rfl
  refine lv_iload_n hx hb d_Text_isDigit_12 rfl (lv_at hl 0 rfl) ?_
  refine lv_bipush (v := 57) hx hb d_Text_isDigit_13 (by decide) ?_
  refine lv_icmp_gt (tgt := 22) hx hb d_Text_isDigit_15 (by decide) (fun c2 => ?_) (fun c2 => ?_)
  · skip
    refine lv_iconst (v := 0) hx hb d_Text_isDigit_22 (by decide) ?_
    exact ly_zret hx hb hr hlocks hP hD hS d_Text_isDigit_23 (by decide) (by rw [s_Text_isDigit] <;> simp only [hr1] <;> rw [if_neg c1, if_pos c2]) rfl
  refine lv_iconst (v := 1) hx hb d_Text_isDigit_18 (by decide) ?_
  refine lv_goto (tgt := 23) hx hb d_Text_isDigit_19 (by decide) ?_
  exact ly_zret hx hb hr hlocks hP hD hS d_Text_isDigit_23 (by decide) (by rw [s_Text_isDigit] <;> simp only [hr1] <;> rw [if_neg c1, if_neg c2]) rfl

theorem zl_Text_areSigns {x : Int64} {z : Int32} : ∀ {n : Nat} {i : Int32}, isB (lp_Text_areSigns x z n i) := by
  intro n
  induction n with
  | zero => intro i; unfold lp_Text_areSigns; exact isB_0
  | succ n ih =>
    intro i
    obtain ⟨r1, hr1⟩ : ∃ r, (s_Text_byteOf x i) = r := ⟨_, rfl⟩
    rw [lp_Text_areSigns]
    simp only [hr1]
    by_cases ct1 : z ≤ i
    · rw [if_pos ct1]
      first | exact isB_0 | exact isB_1 | exact ih | assumption
    rw [if_neg ct1]
    by_cases ct2 : r1 < 32
    · rw [if_pos ct2]
      first | exact isB_0 | exact isB_1 | exact ih | assumption
    rw [if_neg ct2]
    by_cases ct3 : r1 ≤ 126
    · rw [if_pos ct3]
      first | exact isB_0 | exact isB_1 | exact ih | assumption
    rw [if_neg ct3]
    first | exact isB_0 | exact isB_1 | exact ih | assumption
set_option maxHeartbeats 4000000 in
set_option maxRecDepth 100000 in
theorem c_Text_areSigns (l : Launch) (G : GG)  (x : Int64) (z : Int32) : Det l G y_Text_areSigns w_Text_areSigns (rmD 1) 0 0 [.long x, .int z] [] (some (.int (lp_Text_areSigns x z (((z.toInt - (0 : Int32).toInt).toNat) + 1) (0 : Int32)))) [] := by
  refine Det.of (cc := b_Text_areSigns) (maxL := 5) (ret := (some .boolean)) (by decide) rfl (Nat.le_of_ble_eq_true rfl) ?_
  intro p e s m args below meth c A ls hx hb hr hml hown hts hlocks hin hA hK hZ hP hD hS hl
  have hts : ∀ w ∈ wG, w.before args s = true := fun w h => hts w (List.mem_cons_of_mem _ h)
  have hown : s.vm.findClass R_Text = some m.cls := hown
  have loop : ∀ (n : Nat) (i : Int32), (z.toInt - i.toInt).toNat < n → ∀ (H : Heap) (locs : List Loc) (ls : Array Slot), va_P G.1 classes [] H → va_D A [] → va_S A s.heap H locs → lv_has ls 5 [(3, .int i), (0, .long x), (2, .int z)] → W p l e (rmD 1) s m args below meth c H locs 0 0 (MQ below (ly_Q G A (some (.int (lp_Text_areSigns x z n i))) []) args s 0 0 A) (F0 m 2 ls []) := by
    intro n
    induction n with
    | zero => intro i  hmu; exact absurd hmu (Nat.not_lt_zero _)
    | succ n ih =>
      intro i  hmu H locs ls hP hD hS hl
      refine lv_iload_n hx hb d_Text_areSigns_2 rfl (lv_at hl 0 rfl) ?_
      refine lv_iload_n hx hb d_Text_areSigns_3 rfl (lv_at hl 2 rfl) ?_
      refine lv_icmp_ge (tgt := 36) hx hb d_Text_areSigns_4 (by decide) (fun c1 => ?_) (fun c1 => ?_)
      · skip
        refine lv_iconst (v := 1) hx hb d_Text_areSigns_36 (by decide) ?_
        exact ly_zret hx hb hr hlocks hP hD hS d_Text_areSigns_37 (by decide) (by rw [lp_Text_areSigns, if_pos c1]) rfl
      refine lv_lload_n hx hb d_Text_areSigns_7 rfl (lv_at hl 1 rfl) ?_
      refine lv_iload_n hx hb d_Text_areSigns_8 rfl (lv_at hl 0 rfl) ?_
      obtain ⟨r1, hr1⟩ : ∃ r, (s_Text_byteOf x i) = r := ⟨_, rfl⟩
      have hC_r1 := (c_Text_byteOf l G x i)
      rw [hr1] at hC_r1
      refine ly_callS (rest := []) (wf := []) ⟨hx, hb, hml, hown, hts⟩ hA hK hZ hP hD hS hC_r1 (cwS 2 hts g_Text_17 rfl rfl rfl (by decide +kernel) ⟨Nat.le_of_ble_eq_true rfl, Nat.le_of_ble_eq_true rfl⟩) [] rfl (by decide) rfl rfl rfl hl.1 rfl (Nat.le_of_ble_eq_true rfl) d_Text_areSigns_9 ⟨Nat.le_of_ble_eq_true rfl, Nat.le_of_ble_eq_true rfl⟩ (st1 := [.int r1]) (c1 := 0) (s1 := 0) rfl rfl rfl (fun H locs hP hD hS => ?_)
      refine lv_istore (lv' := [(4, .int r1), (3, .int i), (0, .long x), (2, .int z)]) hx hb d_Text_areSigns_12 hl (by decide) rfl (fun ls hl => ?_)
      refine lv_iload hx hb d_Text_areSigns_14 (lv_at hl 0 rfl) ?_
      refine lv_bipush (v := 32) hx hb d_Text_areSigns_16 (by decide) ?_
      refine lv_icmp_lt (tgt := 28) hx hb d_Text_areSigns_18 (by decide) (fun c2 => ?_) (fun c2 => ?_)
      · skip
        refine lv_iconst (v := 0) hx hb d_Text_areSigns_28 (by decide) ?_
        exact ly_zret hx hb hr hlocks hP hD hS d_Text_areSigns_29 (by decide) (by rw [lp_Text_areSigns] <;> simp only [hr1] <;> rw [if_neg c1, if_pos c2]) rfl
      refine lv_iload hx hb d_Text_areSigns_21 (lv_at hl 0 rfl) ?_
      refine lv_bipush (v := 126) hx hb d_Text_areSigns_23 (by decide) ?_
      refine lv_icmp_le (tgt := 30) hx hb d_Text_areSigns_25 (by decide) (fun c3 => ?_) (fun c3 => ?_)
      · skip
        refine lv_iinc (v := i + 1) (lv' := [(3, .int (i + 1)), (4, .int r1), (0, .long x), (2, .int z)]) hx hb d_Text_areSigns_30 hl (k := 1) rfl (by rfl) (by decide) rfl (fun ls hl => ?_)
        refine lv_goto (tgt := 2) hx hb d_Text_areSigns_33 (by decide) ?_
        have e_ : lp_Text_areSigns x z (n + 1) i = lp_Text_areSigns x z n (i + 1) := (by rw [lp_Text_areSigns] <;> simp only [hr1] <;> rw [if_neg c1, if_neg c2, if_pos c3])
        rw [e_]
        exact ih (i + 1) (mu_step (mu_up c1) hmu) _ _ _ hP hD hS (lv_sub hl [0, 2, 3] rfl)
      refine lv_iconst (v := 0) hx hb d_Text_areSigns_28 (by decide) ?_
      exact ly_zret hx hb hr hlocks hP hD hS d_Text_areSigns_29 (by decide) (by rw [lp_Text_areSigns] <;> simp only [hr1] <;> rw [if_neg c1, if_neg c2, if_neg c3]) rfl
  have hl : lv_has ls 5 [(0, .long x), (2, .int z)] := hl
  refine lv_iconst (v := 0) hx hb d_Text_areSigns_0 (by decide) ?_
  refine lv_istore_n (lv' := [(3, .int 0), (0, .long x), (2, .int z)]) hx hb d_Text_areSigns_1 rfl hl (by decide) rfl (fun ls hl => ?_)
  exact loop (((z.toInt - (0 : Int32).toInt).toNat) + 1) (0 : Int32) (Nat.lt_succ_self _) _ _ _ hP hD hS (lv_sub hl [0, 1, 2] rfl)

set_option maxHeartbeats 4000000 in
set_option maxRecDepth 100000 in
theorem c_Text_add (l : Launch) (G : GG) (h : Nat) (a_signs : Nat) (f_signs : Nat → Int32) (v_size : Int32) (x : Int64) (z : Int32) (hz_v_size : up v_size 2000) : Det l G y_Text_add w_Text_add (rmD 1) 0 0 [.ref h, .long x, .int z] [(h, .inr (4, [.ref a_signs, .int v_size])), (a_signs, .inl (gC G, 2000, .inl f_signs))] none [(h, .inr (4, [.ref a_signs, .int (lp_Text_add x ((((z - 1).toInt + 1).toNat) + 1) (z - 1) f_signs v_size).1])), (a_signs, .inl (gC G, 2000, .inl (lp_Text_add x ((((z - 1).toInt + 1).toNat) + 1) (z - 1) f_signs v_size).2))] := by
  refine Det.of (cc := b_Text_add) (maxL := 5) (ret := none) (by decide) rfl (Nat.le_of_ble_eq_true rfl) ?_
  intro p e s m args below meth c A ls hx hb hr hml hown hts hlocks hin hA hK hZ hP hD hS hl
  have hts : ∀ w ∈ wG, w.before args s = true := fun w h => hts w (List.mem_cons_of_mem _ h)
  have hown : s.vm.findClass R_Text = some m.cls := hown
  have loop : ∀ (n : Nat) (i : Int32) (g : Nat → Int32) (k : Int32), up k 2000 → (i.toInt + 1).toNat < n → ∀ (H : Heap) (locs : List Loc) (ls : Array Slot), va_P G.1 classes [(h, .inr (4, [.ref a_signs, .int k])), (a_signs, .inl (gC G, 2000, .inl g))] H → va_D A [(h, .inr (4, [.ref a_signs, .int k])), (a_signs, .inl (gC G, 2000, .inl g))] → va_S A s.heap H locs → lv_has ls 5 [(4, .int i), (0, .ref h), (1, .long x), (3, .int z)] → W p l e (rmD 1) s m args below meth c H locs 0 0 (MQ below (ly_Q G A none [(h, .inr (4, [.ref a_signs, .int (lp_Text_add x n i g k).1])), (a_signs, .inl (gC G, 2000, .inl (lp_Text_add x n i g k).2))]) args s 0 0 A) (F0 m 5 ls []) := by
    intro n
    induction n with
    | zero => intro i g k hk hmu; exact absurd hmu (Nat.not_lt_zero _)
    | succ n ih =>
      intro i g k hk hmu H locs ls hP hD hS hl
      refine lv_iload hx hb d_Text_add_5 (lv_at hl 0 rfl) ?_
      refine lv_if_lt (tgt := 54) hx hb d_Text_add_7 (by decide) (fun c1 => ?_) (fun c1 => ?_)
      · skip
        exact ly_vret hx hb hr hlocks hP hD hS d_Text_add_54 rfl (by rw [lp_Text_add, if_pos c1])
      refine lv_aload_n hx hb d_Text_add_10 rfl (lv_at hl 1 rfl) ?_
      refine va_get (D := G.1) (ci := 4) (C := R_Text) (T := F_Text) (N := 2) (v := .int k) hx hb hts i_Text hown hK hP 0 rfl rfl 1 (by decide) (hts (.fieldLink R_Text 13 "PrivateQueries$Text" "size" "I") k_30) (fun _ h9 => h9) rfl d_Text_add_11 ?_
      refine lv_aload_n hx hb d_Text_add_14 rfl (lv_at hl 1 rfl) ?_
      refine va_get (D := G.1) (ci := 4) (C := R_Text) (T := F_Text) (N := 2) (v := .ref a_signs) hx hb hts i_Text hown hK hP 0 rfl rfl 0 (by decide) (hts (.fieldLink R_Text 9 "PrivateQueries$Text" "signs" "[C") k_31) (fun _ h9 => h9) rfl d_Text_add_15 ?_
      refine va_alen (v := 2000) hx hb hK hP 1 1 rfl rfl (show Int32.ofNat 2000 = 2000 by decide) d_Text_add_18 ?_
      refine lv_icmp_ge (tgt := 54) hx hb d_Text_add_19 (by decide) (fun c2 => ?_) (fun c2 => ?_)
      · skip
        exact ly_vret hx hb hr hlocks hP hD hS d_Text_add_54 rfl (by rw [lp_Text_add, if_neg c1, if_pos c2])
      refine lv_aload_n hx hb d_Text_add_22 rfl (lv_at hl 1 rfl) ?_
      refine va_get (D := G.1) (ci := 4) (C := R_Text) (T := F_Text) (N := 2) (v := .ref a_signs) hx hb hts i_Text hown hK hP 0 rfl rfl 0 (by decide) (hts (.fieldLink R_Text 9 "PrivateQueries$Text" "signs" "[C") k_31) (fun _ h9 => h9) rfl d_Text_add_23 ?_
      refine lv_aload_n hx hb d_Text_add_26 rfl (lv_at hl 1 rfl) ?_
      refine va_get (D := G.1) (ci := 4) (C := R_Text) (T := F_Text) (N := 2) (v := .int k) hx hb hts i_Text hown hK hP 0 rfl rfl 1 (by decide) (hts (.fieldLink R_Text 13 "PrivateQueries$Text" "size" "I") k_30) (fun _ h9 => h9) rfl d_Text_add_27 ?_
      refine lv_lload_n hx hb d_Text_add_30 rfl (lv_at hl 2 rfl) ?_
      refine lv_iload hx hb d_Text_add_31 (lv_at hl 0 rfl) ?_
      obtain ⟨r1, hr1⟩ : ∃ r, (s_Text_byteOf x i) = r := ⟨_, rfl⟩
      have hC_r1 := (c_Text_byteOf l G x i)
      rw [hr1] at hC_r1
      refine ly_callS (rest := [.int k, .ref a_signs]) (wf := [(h, .inr (4, [.ref a_signs, .int k])), (a_signs, .inl (gC G, 2000, .inl g))]) ⟨hx, hb, hml, hown, hts⟩ hA hK hZ hP hD hS hC_r1 (cwS 2 hts g_Text_17 rfl rfl rfl (by decide +kernel) ⟨Nat.le_of_ble_eq_true rfl, Nat.le_of_ble_eq_true rfl⟩) [] rfl (by decide) rfl rfl rfl hl.1 rfl (Nat.le_of_ble_eq_true rfl) d_Text_add_33 ⟨Nat.le_of_ble_eq_true rfl, Nat.le_of_ble_eq_true rfl⟩ (st1 := [.int r1, .int k, .ref a_signs]) (c1 := 0) (s1 := 0) rfl rfl rfl (fun H locs hP hD hS => ?_)
      refine lv_i2c (v := (r1.toUInt32 % 65536).toInt32) hx hb d_Text_add_36 rfl ?_
      refine va_cast hx hb hK hP hD hS 1 1 rfl rfl (ly_mk hk.1 (ly_hi (by decide) c2)) d_Text_add_37 (fun H locs hP hD hS => ?_)
      have hP : va_P G.1 classes [(h, .inr (4, [.ref a_signs, .int k])), (a_signs, .inl (gC G, 2000, .inl (upd g k.toNatClampNeg (vp_nar .char ((r1.toUInt32 % 65536).toInt32)))))] H := hP
      have hD : va_D A [(h, .inr (4, [.ref a_signs, .int k])), (a_signs, .inl (gC G, 2000, .inl (upd g k.toNatClampNeg (vp_nar .char ((r1.toUInt32 % 65536).toInt32)))))] := hD
      refine lv_aload_n hx hb d_Text_add_38 rfl (lv_at hl 1 rfl) ?_
      refine lv_dup hx hb d_Text_add_39 rfl ?_
      refine va_get (D := G.1) (ci := 4) (C := R_Text) (T := F_Text) (N := 2) (v := .int k) hx hb hts i_Text hown hK hP 0 rfl rfl 1 (by decide) (hts (.fieldLink R_Text 13 "PrivateQueries$Text" "size" "I") k_30) (fun _ h9 => h9) rfl d_Text_add_40 ?_
      refine lv_iconst (v := 1) hx hb d_Text_add_43 (by decide) ?_
      refine lv_iadd hx hb d_Text_add_44 ?_
      refine va_put (D := G.1) (ci := 4) (v := .int (k + 1)) (ty := .int) (C := R_Text) (T := F_Text) (N := 2) hx hb hts i_Text t_Text t_Text_ok n_Text hown hK hP hD hS 0 rfl rfl 1 (by decide) (hts (.fieldLink R_Text 13 "PrivateQueries$Text" "size" "I") k_30) (fun _ h9 => h9) rfl (by decide +kernel) rfl rfl (Nat.le_of_ble_eq_true rfl) d_Text_add_45 (fun H locs hP hD hS => ?_)
      have hP : va_P G.1 classes [(h, .inr (4, [.ref a_signs, .int (k + 1)])), (a_signs, .inl (gC G, 2000, .inl (upd g k.toNatClampNeg (vp_nar .char ((r1.toUInt32 % 65536).toInt32)))))] H := hP
      have hD : va_D A [(h, .inr (4, [.ref a_signs, .int (k + 1)])), (a_signs, .inl (gC G, 2000, .inl (upd g k.toNatClampNeg (vp_nar .char ((r1.toUInt32 % 65536).toInt32)))))] := hD
      refine lv_iinc (v := i + (-1)) (lv' := [(4, .int (i + (-1))), (0, .ref h), (1, .long x), (3, .int z)]) hx hb d_Text_add_48 hl (k := 0) rfl (by rfl) (by decide) rfl (fun ls hl => ?_)
      refine lv_goto (tgt := 5) hx hb d_Text_add_51 (by decide) ?_
      have e_ : lp_Text_add x (n + 1) i g k = lp_Text_add x n (i + (-1)) (upd g k.toNatClampNeg (vp_nar .char ((r1.toUInt32 % 65536).toInt32))) (k + 1) := (by rw [lp_Text_add] <;> simp only [hr1] <;> rw [if_neg c1, if_neg c2])
      rw [e_]
      exact ih (i + (-1)) (upd g k.toNatClampNeg (vp_nar .char ((r1.toUInt32 % 65536).toInt32))) (k + 1) (up_add1 hk (by decide) c2) (mu_step (mu_dn c1) hmu) _ _ _ hP hD hS (lv_sub hl [0, 1, 2, 3] rfl)
  have hl : lv_has ls 5 [(0, .ref h), (1, .long x), (3, .int z)] := hl
  refine lv_iload_n hx hb d_Text_add_0 rfl (lv_at hl 2 rfl) ?_
  refine lv_iconst (v := 1) hx hb d_Text_add_1 (by decide) ?_
  refine lv_isub hx hb d_Text_add_2 ?_
  refine lv_istore (lv' := [(4, .int (z - 1)), (0, .ref h), (1, .long x), (3, .int z)]) hx hb d_Text_add_3 hl (by decide) rfl (fun ls hl => ?_)
  exact loop ((((z - 1).toInt + 1).toNat) + 1) (z - 1) f_signs v_size hz_v_size (Nat.lt_succ_self _) _ _ _ hP hD hS (lv_sub hl [0, 1, 2, 3] rfl)
