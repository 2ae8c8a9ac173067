theorem d_Str_coder_0 : decode b_Str_coder 0 = .ok (.getstatic 38, 3) := by decide +kernel
theorem d_Str_coder_3 : decode b_Str_coder 3 = .ok (.ifCond .eq 10, 3) := by decide +kernel
theorem d_Str_coder_6 : decode b_Str_coder 6 = .ok (.aload_n 0, 1) := by decide +kernel
theorem d_Str_coder_7 : decode b_Str_coder 7 = .ok (.getfield 15, 3) := by decide +kernel
theorem d_Str_coder_10 : decode b_Str_coder 10 = .ok (.goto 4, 3) := by decide +kernel
theorem d_Str_coder_13 : decode b_Str_coder 13 = .ok (.iconst 1, 1) := by decide +kernel
theorem d_Str_coder_14 : decode b_Str_coder 14 = .ok (.ireturn, 1) := by decide +kernel
theorem d_Str_isLatin1_0 : decode b_Str_isLatin1 0 = .ok (.getstatic 38, 3) := by decide +kernel
theorem d_Str_isLatin1_3 : decode b_Str_isLatin1 3 = .ok (.ifCond .eq 14, 3) := by decide +kernel
theorem d_Str_isLatin1_6 : decode b_Str_isLatin1 6 = .ok (.aload_n 0, 1) := by decide +kernel
theorem d_Str_isLatin1_7 : decode b_Str_isLatin1 7 = .ok (.getfield 15, 3) := by decide +kernel
theorem d_Str_isLatin1_10 : decode b_Str_isLatin1 10 = .ok (.ifCond .ne 7, 3) := by decide +kernel
theorem d_Str_isLatin1_13 : decode b_Str_isLatin1 13 = .ok (.iconst 1, 1) := by decide +kernel
theorem d_Str_isLatin1_14 : decode b_Str_isLatin1 14 = .ok (.goto 4, 3) := by decide +kernel
theorem d_Str_isLatin1_17 : decode b_Str_isLatin1 17 = .ok (.iconst 0, 1) := by decide +kernel
theorem d_Str_isLatin1_18 : decode b_Str_isLatin1 18 = .ok (.ireturn, 1) := by decide +kernel
theorem d_Str_length_0 : decode b_Str_length 0 = .ok (.aload_n 0, 1) := by decide +kernel
theorem d_Str_length_1 : decode b_Str_length 1 = .ok (.getfield 9, 3) := by decide +kernel
theorem d_Str_length_4 : decode b_Str_length 4 = .ok (.arraylength, 1) := by decide +kernel
theorem d_Str_length_5 : decode b_Str_length 5 = .ok (.aload_n 0, 1) := by decide +kernel
theorem d_Str_length_6 : decode b_Str_length 6 = .ok (.invokevirtual 335, 3) := by decide +kernel
theorem d_Str_length_9 : decode b_Str_length 9 = .ok (.ishr, 1) := by decide +kernel
theorem d_Str_length_10 : decode b_Str_length 10 = .ok (.ireturn, 1) := by decide +kernel
theorem d_Prec_checkIndex_0 : decode b_Prec_checkIndex 0 = .ok (.iload_n 0, 1) := by decide +kernel
theorem d_Prec_checkIndex_1 : decode b_Prec_checkIndex 1 = .ok (.ifCond .lt 8, 3) := by decide +kernel
theorem d_Prec_checkIndex_4 : decode b_Prec_checkIndex 4 = .ok (.iload_n 0, 1) := by decide +kernel
theorem d_Prec_checkIndex_5 : decode b_Prec_checkIndex 5 = .ok (.iload_n 1, 1) := by decide +kernel
theorem d_Prec_checkIndex_6 : decode b_Prec_checkIndex 6 = .ok (.if_icmp .lt 10, 3) := by decide +kernel
theorem d_Prec_checkIndex_9 : decode b_Prec_checkIndex 9 = .ok (.aload_n 2, 1) := by decide +kernel
theorem d_Prec_checkIndex_10 : decode b_Prec_checkIndex 10 = .ok (.iload_n 0, 1) := by decide +kernel
theorem d_Prec_checkIndex_11 : decode b_Prec_checkIndex 11 = .ok (.iload_n 1, 1) := by decide +kernel
theorem d_Prec_checkIndex_12 : decode b_Prec_checkIndex 12 = .ok (.invokestatic 95, 3) := by decide +kernel
theorem d_Prec_checkIndex_15 : decode b_Prec_checkIndex 15 = .ok (.athrow, 1) := by decide +kernel
theorem d_Prec_checkIndex_16 : decode b_Prec_checkIndex 16 = .ok (.iload_n 0, 1) := by decide +kernel
theorem d_Prec_checkIndex_17 : decode b_Prec_checkIndex 17 = .ok (.ireturn, 1) := by decide +kernel
theorem d_Str_checkIndex_0 : decode b_Str_checkIndex 0 = .ok (.iload_n 0, 1) := by decide +kernel
theorem d_Str_checkIndex_1 : decode b_Str_checkIndex 1 = .ok (.iload_n 1, 1) := by decide +kernel
theorem d_Str_checkIndex_2 : decode b_Str_checkIndex 2 = .ok (.getstatic 1053, 3) := by decide +kernel
theorem d_Str_checkIndex_5 : decode b_Str_checkIndex 5 = .ok (.invokestatic 1059, 3) := by decide +kernel
theorem d_Str_checkIndex_8 : decode b_Str_checkIndex 8 = .ok (.pop, 1) := by decide +kernel
theorem d_Str_checkIndex_9 : decode b_Str_checkIndex 9 = .ok (.return_, 1) := by decide +kernel
theorem d_Lat_charAt_0 : decode b_Lat_charAt 0 = .ok (.iload_n 1, 1) := by decide +kernel
theorem d_Lat_charAt_1 : decode b_Lat_charAt 1 = .ok (.aload_n 0, 1) := by decide +kernel
theorem d_Lat_charAt_2 : decode b_Lat_charAt 2 = .ok (.arraylength, 1) := by decide +kernel
theorem d_Lat_charAt_3 : decode b_Lat_charAt 3 = .ok (.invokestatic 9, 3) := by decide +kernel
theorem d_Lat_charAt_6 : decode b_Lat_charAt 6 = .ok (.aload_n 0, 1) := by decide +kernel
theorem d_Lat_charAt_7 : decode b_Lat_charAt 7 = .ok (.iload_n 1, 1) := by decide +kernel
theorem d_Lat_charAt_8 : decode b_Lat_charAt 8 = .ok (.baload, 1) := by decide +kernel
theorem d_Lat_charAt_9 : decode b_Lat_charAt 9 = .ok (.sipush 255, 3) := by decide +kernel
theorem d_Lat_charAt_12 : decode b_Lat_charAt 12 = .ok (.iand, 1) := by decide +kernel
theorem d_Lat_charAt_13 : decode b_Lat_charAt 13 = .ok (.i2c, 1) := by decide +kernel
theorem d_Lat_charAt_14 : decode b_Lat_charAt 14 = .ok (.ireturn, 1) := by decide +kernel
theorem d_Str_charAt_0 : decode b_Str_charAt 0 = .ok (.aload_n 0, 1) := by decide +kernel
theorem d_Str_charAt_1 : decode b_Str_charAt 1 = .ok (.invokevirtual 492, 3) := by decide +kernel
theorem d_Str_charAt_4 : decode b_Str_charAt 4 = .ok (.ifCond .eq 12, 3) := by decide +kernel
theorem d_Str_charAt_7 : decode b_Str_charAt 7 = .ok (.aload_n 0, 1) := by decide +kernel
theorem d_Str_charAt_8 : decode b_Str_charAt 8 = .ok (.getfield 9, 3) := by decide +kernel
theorem d_Str_charAt_11 : decode b_Str_charAt 11 = .ok (.iload_n 1, 1) := by decide +kernel
theorem d_Str_charAt_12 : decode b_Str_charAt 12 = .ok (.invokestatic 495, 3) := by decide +kernel
theorem d_Str_charAt_15 : decode b_Str_charAt 15 = .ok (.ireturn, 1) := by decide +kernel
theorem d_Str_charAt_16 : decode b_Str_charAt 16 = .ok (.aload_n 0, 1) := by decide +kernel
theorem d_Str_charAt_17 : decode b_Str_charAt 17 = .ok (.getfield 9, 3) := by decide +kernel
theorem d_Str_charAt_20 : decode b_Str_charAt 20 = .ok (.iload_n 1, 1) := by decide +kernel
theorem d_Str_charAt_21 : decode b_Str_charAt 21 = .ok (.invokestatic 498, 3) := by decide +kernel
theorem d_Str_charAt_24 : decode b_Str_charAt 24 = .ok (.ireturn, 1) := by decide +kernel
theorem d_Arr_fill_0 : decode b_Arr_fill 0 = .ok (.iconst 0, 1) := by decide +kernel
theorem d_Arr_fill_1 : decode b_Arr_fill 1 = .ok (.istore_n 2, 1) := by decide +kernel
theorem d_Arr_fill_2 : decode b_Arr_fill 2 = .ok (.aload_n 0, 1) := by decide +kernel
theorem d_Arr_fill_3 : decode b_Arr_fill 3 = .ok (.arraylength, 1) := by decide +kernel
theorem d_Arr_fill_4 : decode b_Arr_fill 4 = .ok (.istore_n 3, 1) := by decide +kernel
theorem d_Arr_fill_5 : decode b_Arr_fill 5 = .ok (.iload_n 2, 1) := by decide +kernel
theorem d_Arr_fill_6 : decode b_Arr_fill 6 = .ok (.iload_n 3, 1) := by decide +kernel
theorem d_Arr_fill_7 : decode b_Arr_fill 7 = .ok (.if_icmp .ge 13, 3) := by decide +kernel
theorem d_Arr_fill_10 : decode b_Arr_fill 10 = .ok (.aload_n 0, 1) := by decide +kernel
theorem d_Arr_fill_11 : decode b_Arr_fill 11 = .ok (.iload_n 2, 1) := by decide +kernel
theorem d_Arr_fill_12 : decode b_Arr_fill 12 = .ok (.iload_n 1, 1) := by decide +kernel
theorem d_Arr_fill_13 : decode b_Arr_fill 13 = .ok (.iastore, 1) := by decide +kernel
theorem d_Arr_fill_14 : decode b_Arr_fill 14 = .ok (.iinc 2 1, 3) := by decide +kernel
theorem d_Arr_fill_17 : decode b_Arr_fill 17 = .ok (.goto (-12), 3) := by decide +kernel
theorem d_Arr_fill_20 : decode b_Arr_fill 20 = .ok (.return_, 1) := by decide +kernel
theorem k_598 : (.fieldLink R_Str 38 "java/lang/String" "COMPACT_STRINGS" "Z" : Cond) ∈ wG := wGm 544 (by decide +kernel) (by decide +kernel)
theorem k_599 : (.fieldLink R_Str 15 "java/lang/String" "coder" "B" : Cond) ∈ wG := wGm 1453 (by decide +kernel) (by decide +kernel)
theorem k_600 : (.fieldLink R_Str 9 "java/lang/String" "value" "[B" : Cond) ∈ wG := wGm 1452 (by decide +kernel) (by decide +kernel)
theorem k_601 : (.methodLink R_Str 335 y_Str_coder : Cond) ∈ wG := wGm 540 (by decide +kernel) (by decide +kernel)
theorem k_602 : (.instanceMethod y_Str_coder : Cond) ∈ wG := wGm 541 (by decide +kernel) (by decide +kernel)
theorem k_603 : (.selects R_Str y_Str_coder y_Str_coder : Cond) ∈ wG := wGm 542 (by decide +kernel) (by decide +kernel)
theorem k_604 : (.initialized R_Str : Cond) ∈ wG := wGm 99 (by decide +kernel) (by decide +kernel)
theorem k_605 : (.code y_Str_coder b_Str_coder 1 (some .byte) : Cond) ∈ wG := wGm 543 (by decide +kernel) (by decide +kernel)
theorem k_606 : (.fieldLink R_Str 1053 "jdk/internal/util/Preconditions" "SIOOBE_FORMATTER" "Ljava/util/function/BiFunction;" : Cond) ∈ wG := wGm 565 (by decide +kernel) (by decide +kernel)
theorem k_607 : (.code y_Prec_checkIndex b_Prec_checkIndex 3 (some .int) : Cond) ∈ wG := wGm 569 (by decide +kernel) (by decide +kernel)
theorem k_608 : (.initialized R_Prec : Cond) ∈ wG := wGm 101 (by decide +kernel) (by decide +kernel)
theorem k_609 : (.methodLink R_Str 1059 y_Prec_checkIndex : Cond) ∈ wG := wGm 567 (by decide +kernel) (by decide +kernel)
theorem k_610 : (.static y_Prec_checkIndex : Cond) ∈ wG := wGm 568 (by decide +kernel) (by decide +kernel)
theorem k_611 : (.code y_Str_checkIndex b_Str_checkIndex 2 none : Cond) ∈ wG := wGm 564 (by decide +kernel) (by decide +kernel)
theorem k_612 : (.methodLink R_Lat 9 y_Str_checkIndex : Cond) ∈ wG := wGm 562 (by decide +kernel) (by decide +kernel)
theorem k_613 : (.static y_Str_checkIndex : Cond) ∈ wG := wGm 563 (by decide +kernel) (by decide +kernel)
theorem k_614 : (.methodLink R_Str 492 y_Str_isLatin1 : Cond) ∈ wG := wGm 555 (by decide +kernel) (by decide +kernel)
theorem k_615 : (.instanceMethod y_Str_isLatin1 : Cond) ∈ wG := wGm 556 (by decide +kernel) (by decide +kernel)
theorem k_616 : (.selects R_Str y_Str_isLatin1 y_Str_isLatin1 : Cond) ∈ wG := wGm 557 (by decide +kernel) (by decide +kernel)
theorem k_617 : (.code y_Str_isLatin1 b_Str_isLatin1 1 (some .boolean) : Cond) ∈ wG := wGm 558 (by decide +kernel) (by decide +kernel)
theorem k_618 : (.code y_Lat_charAt b_Lat_charAt 2 (some .char) : Cond) ∈ wG := wGm 561 (by decide +kernel) (by decide +kernel)
theorem k_619 : (.initialized R_Lat : Cond) ∈ wG := wGm 100 (by decide +kernel) (by decide +kernel)
theorem k_620 : (.methodLink R_Str 495 y_Lat_charAt : Cond) ∈ wG := wGm 559 (by decide +kernel) (by decide +kernel)
theorem k_621 : (.static y_Lat_charAt : Cond) ∈ wG := wGm 560 (by decide +kernel) (by decide +kernel)
theorem g_Str_335 : GoodIn wG (wsV R_Str 335 R_Str y_Str_coder w_Str_coder) := wGa (fun w hw => by
  rcases List.mem_cons.mp hw with e | hw
  · exact e ▸ k_601
  rcases List.mem_cons.mp hw with e | hw
  · exact e ▸ k_602
  rcases List.mem_cons.mp hw with e | hw
  · exact e ▸ k_603
  rcases List.mem_cons.mp hw with e | hw
  · exact e ▸ k_604
  · exact absurd hw List.not_mem_nil) (wGc k_605)
theorem g_Str_1059 : GoodIn wG w_Prec_checkIndex := wGc k_607
theorem g_Lat_9 : GoodIn wG w_Str_checkIndex := wGc k_611
theorem g_Str_492 : GoodIn wG (wsV R_Str 492 R_Str y_Str_isLatin1 w_Str_isLatin1) := wGa (fun w hw => by
  rcases List.mem_cons.mp hw with e | hw
  · exact e ▸ k_614
  rcases List.mem_cons.mp hw with e | hw
  · exact e ▸ k_615
  rcases List.mem_cons.mp hw with e | hw
  · exact e ▸ k_616
  rcases List.mem_cons.mp hw with e | hw
  · exact e ▸ k_604
  · exact absurd hw List.not_mem_nil) (wGc k_617)
theorem g_Str_495 : GoodIn wG w_Lat_charAt := wGc k_618
set_option maxHeartbeats 4000000 in
set_option maxRecDepth 100000 in
theorem c_Str_coder (l : Launch) (G : GG)  (k : Nat) (hk_k : k < nS) : Det l G y_Str_coder w_Str_coder (rmD 0) 0 0 [.ref (G.2.2.1 k)] [] (some (.int 0)) [] := by
  refine Det.of (cc := b_Str_coder) (maxL := 1) (ret := (some .byte)) (by decide) rfl (Nat.le_of_ble_eq_true rfl) ?_
  intro p e s m args below meth c A ls hx hb hr hml hown hts hlocks hin hA hK hZ hP hD hS hl
  have hts : ∀ w ∈ wG, w.before args s = true := fun w h => hts w (List.mem_cons_of_mem _ h)
  have hown : s.vm.findClass R_Str = some m.cls := hown
  have hl : lv_has ls 1 [(0, .ref (G.2.2.1 k))] := hl
  refine va_gets hx hb hZ.2.2.2.1 hS hown (hts (.fieldLink R_Str 38 "java/lang/String" "COMPACT_STRINGS" "Z") k_598) (fun _ h9 => h9) d_Str_coder_0 ?_
  refine lv_if_eq (tgt := 13) hx hb d_Str_coder_3 (by decide) (fun c1 => ?_) (fun c1 => ?_)
  · exact absurd c1 (by decide)
  refine lv_aload_n hx hb d_Str_coder_6 rfl (lv_at hl 0 rfl) ?_
  refine vk_getf hx hb (hZ.1.1 k hk_k).2.1 hS hown (hts (.fieldLink R_Str 15 "java/lang/String" "coder" "B") k_599) (fun _ h9 => h9) d_Str_coder_7 ?_
  refine lv_goto (tgt := 14) hx hb d_Str_coder_10 (by decide) ?_
  exact ly_zret hx hb hr hlocks hP hD hS d_Str_coder_14 (by decide) rfl rfl

set_option maxHeartbeats 4000000 in
set_option maxRecDepth 100000 in
theorem c_Str_isLatin1 (l : Launch) (G : GG)  (k : Nat) (hk_k : k < nS) : Det l G y_Str_isLatin1 w_Str_isLatin1 (rmD 0) 0 0 [.ref (G.2.2.1 k)] [] (some (.int 1)) [] := by
  refine Det.of (cc := b_Str_isLatin1) (maxL := 1) (ret := (some .boolean)) (by decide) rfl (Nat.le_of_ble_eq_true rfl) ?_
  intro p e s m args below meth c A ls hx hb hr hml hown hts hlocks hin hA hK hZ hP hD hS hl
  have hts : ∀ w ∈ wG, w.before args s = true := fun w h => hts w (List.mem_cons_of_mem _ h)
  have hown : s.vm.findClass R_Str = some m.cls := hown
  have hl : lv_has ls 1 [(0, .ref (G.2.2.1 k))] := hl
  refine va_gets hx hb hZ.2.2.2.1 hS hown (hts (.fieldLink R_Str 38 "java/lang/String" "COMPACT_STRINGS" "Z") k_598) (fun _ h9 => h9) d_Str_isLatin1_0 ?_
  refine lv_if_eq (tgt := 17) hx hb d_Str_isLatin1_3 (by decide) (fun c1 => ?_) (fun c1 => ?_)
  · exact absurd c1 (by decide)
  refine lv_aload_n hx hb d_Str_isLatin1_6 rfl (lv_at hl 0 rfl) ?_
  refine vk_getf hx hb (hZ.1.1 k hk_k).2.1 hS hown (hts (.fieldLink R_Str 15 "java/lang/String" "coder" "B") k_599) (fun _ h9 => h9) d_Str_isLatin1_7 ?_
  refine lv_if_ne (tgt := 17) hx hb d_Str_isLatin1_10 (by decide) (fun c2 => ?_) (fun c2 => ?_)
  · exact absurd (by decide) c2
  refine lv_iconst (v := 1) hx hb d_Str_isLatin1_13 (by decide) ?_
  refine lv_goto (tgt := 18) hx hb d_Str_isLatin1_14 (by decide) ?_
  exact ly_zret hx hb hr hlocks hP hD hS d_Str_isLatin1_18 (by decide) rfl rfl

set_option maxHeartbeats 4000000 in
set_option maxRecDepth 100000 in
theorem c_Str_length (l : Launch) (G : GG)  (k : Nat) (hk_k : k < nS) : Det l G y_Str_length w_Str_length (rmD 1) 0 0 [.ref (G.2.2.1 k)] [] (some (.int (s_Str_length k))) [] := by
  refine Det.of (cc := b_Str_length) (maxL := 1) (ret := (some .int)) (by decide) rfl (Nat.le_of_ble_eq_true rfl) ?_
  intro p e s m args below meth c A ls hx hb hr hml hown hts hlocks hin hA hK hZ hP hD hS hl
  have hts : ∀ w ∈ wG, w.before args s = true := fun w h => hts w (List.mem_cons_of_mem _ h)
  have hown : s.vm.findClass R_Str = some m.cls := hown
  have hl : lv_has ls 1 [(0, .ref (G.2.2.1 k))] := hl
  refine lv_aload_n hx hb d_Str_length_0 rfl (lv_at hl 0 rfl) ?_
  refine vk_getf hx hb (hZ.1.1 k hk_k).2.2.1 hS hown (hts (.fieldLink R_Str 9 "java/lang/String" "value" "[B") k_600) (fun _ h9 => h9) d_Str_length_1 ?_
  refine va_tlen hx hb (hZ.1.1 k hk_k).2.2.2 hS rfl d_Str_length_4 ?_
  refine lv_aload_n hx hb d_Str_length_5 rfl (lv_at hl 0 rfl) ?_
  refine ly_callL (rest := [.int (Int32.ofNat (lenS.getD k 0))]) (wf := []) ⟨hx, hb, hml, hown, hts⟩ hA hK hZ hP hD hS (c_Str_coder l G k hk_k) (cwV 0 hts g_Str_335 rfl rfl rfl (by decide +kernel) ⟨Nat.le_of_ble_eq_true rfl, Nat.le_of_ble_eq_true rfl⟩) (i := k) hk_k [] rfl (by decide) rfl rfl rfl hl.1 rfl (Nat.le_of_ble_eq_true rfl) d_Str_length_6 ⟨Nat.le_of_ble_eq_true rfl, Nat.le_of_ble_eq_true rfl⟩ (st1 := [.int 0, .int (Int32.ofNat (lenS.getD k 0))]) (c1 := 0) (s1 := 0) rfl rfl rfl (fun H locs hP hD hS => ?_)
  refine lv_ishr hx hb d_Str_length_9 ?_
  exact ly_iret hx hb hr hlocks hP hD hS d_Str_length_10 (by rw [s_Str_length]) rfl

set_option maxHeartbeats 4000000 in
set_option maxRecDepth 100000 in
theorem c_Prec_checkIndex (l : Launch) (G : GG)  (x : Int32) (z : Int32) (v : Nat) (h1 : ¬ x < 0) (h2 : x < z) : Det l G y_Prec_checkIndex w_Prec_checkIndex (rmD 0) 0 0 [.int x, .int z, .ref v] [] (some (.int x)) [] := by
  refine Det.of (cc := b_Prec_checkIndex) (maxL := 3) (ret := (some .int)) (by decide) rfl (Nat.le_of_ble_eq_true rfl) ?_
  intro p e s m args below meth c A ls hx hb hr hml hown hts hlocks hin hA hK hZ hP hD hS hl
  have hts : ∀ w ∈ wG, w.before args s = true := fun w h => hts w (List.mem_cons_of_mem _ h)
  have hown : s.vm.findClass R_Prec = some m.cls := hown
  have hl : lv_has ls 3 [(0, .int x), (1, .int z), (2, .ref v)] := hl
  refine lv_iload_n hx hb d_Prec_checkIndex_0 rfl (lv_at hl 0 rfl) ?_
  refine lv_if_lt (tgt := 9) hx hb d_Prec_checkIndex_1 (by decide) (fun c1 => ?_) (fun c1 => ?_)
  · exact absurd c1 h1
  refine lv_iload_n hx hb d_Prec_checkIndex_4 rfl (lv_at hl 0 rfl) ?_
  refine lv_iload_n hx hb d_Prec_checkIndex_5 rfl (lv_at hl 1 rfl) ?_
  refine lv_icmp_lt (tgt := 16) hx hb d_Prec_checkIndex_6 (by decide) (fun c2 => ?_) (fun c2 => ?_)
  rotate_left 1
  · exact absurd h2 c2
  refine lv_iload_n hx hb d_Prec_checkIndex_16 rfl (lv_at hl 0 rfl) ?_
  exact ly_iret hx hb hr hlocks hP hD hS d_Prec_checkIndex_17 rfl rfl

set_option maxHeartbeats 4000000 in
set_option maxRecDepth 100000 in
theorem c_Prec_checkIndexN (l : Launch) (G : GG)  (x : Int32) (z : Int32) (h1 : ¬ x < 0) (h2 : x < z) : Det l G y_Prec_checkIndex w_Prec_checkIndex (rmD 0) 0 0 [.int x, .int z, .null] [] (some (.int x)) [] := by
  refine Det.of (cc := b_Prec_checkIndex) (maxL := 3) (ret := (some .int)) (by decide) rfl (Nat.le_of_ble_eq_true rfl) ?_
  intro p e s m args below meth c A ls hx hb hr hml hown hts hlocks hin hA hK hZ hP hD hS hl
  have hts : ∀ w ∈ wG, w.before args s = true := fun w h => hts w (List.mem_cons_of_mem _ h)
  have hown : s.vm.findClass R_Prec = some m.cls := hown
  have hl : lv_has ls 3 [(0, .int x), (1, .int z), (2, .null)] := hl
  refine lv_iload_n hx hb d_Prec_checkIndex_0 rfl (lv_at hl 0 rfl) ?_
  refine lv_if_lt (tgt := 9) hx hb d_Prec_checkIndex_1 (by decide) (fun c1 => ?_) (fun c1 => ?_)
  · exact absurd c1 h1
  refine lv_iload_n hx hb d_Prec_checkIndex_4 rfl (lv_at hl 0 rfl) ?_
  refine lv_iload_n hx hb d_Prec_checkIndex_5 rfl (lv_at hl 1 rfl) ?_
  refine lv_icmp_lt (tgt := 16) hx hb d_Prec_checkIndex_6 (by decide) (fun c2 => ?_) (fun c2 => ?_)
  rotate_left 1
  · exact absurd h2 c2
  refine lv_iload_n hx hb d_Prec_checkIndex_16 rfl (lv_at hl 0 rfl) ?_
  exact ly_iret hx hb hr hlocks hP hD hS d_Prec_checkIndex_17 rfl rfl

set_option maxHeartbeats 4000000 in
set_option maxRecDepth 100000 in
theorem c_Str_checkIndex (l : Launch) (G : GG)  (x : Int32) (z : Int32) (h1 : ¬ x < 0) (h2 : x < z) : Det l G y_Str_checkIndex w_Str_checkIndex (rmD 1) 0 0 [.int x, .int z] [] none [] := by
  refine Det.of (cc := b_Str_checkIndex) (maxL := 2) (ret := none) (by decide) rfl (Nat.le_of_ble_eq_true rfl) ?_
  intro p e s m args below meth c A ls hx hb hr hml hown hts hlocks hin hA hK hZ hP hD hS hl
  have hts : ∀ w ∈ wG, w.before args s = true := fun w h => hts w (List.mem_cons_of_mem _ h)
  have hown : s.vm.findClass R_Str = some m.cls := hown
  have hl : lv_has ls 2 [(0, .int x), (1, .int z)] := hl
  refine lv_iload_n hx hb d_Str_checkIndex_0 rfl (lv_at hl 0 rfl) ?_
  refine lv_iload_n hx hb d_Str_checkIndex_1 rfl (lv_at hl 1 rfl) ?_
  rcases hZ.2.2.2.2 with hx_ | ⟨x_, hx_⟩
  · skip
    refine va_gets hx hb hx_ hS hown (hts (.fieldLink R_Str 1053 "jdk/internal/util/Preconditions" "SIOOBE_FORMATTER" "Ljava/util/function/BiFunction;") k_606) (fun _ h9 => h9) d_Str_checkIndex_2 ?_
    refine ly_callS (rest := []) (wf := []) ⟨hx, hb, hml, hown, hts⟩ hA hK hZ hP hD hS (c_Prec_checkIndexN l G x z h1 h2) ⟨callB_of 3 hts g_Str_1059 rfl rfl rfl (hts (.initialized R_Prec) k_608) (hts (.methodLink R_Str 1059 y_Prec_checkIndex) k_609) (by decide +kernel) ⟨Nat.le_of_ble_eq_true rfl, Nat.le_of_ble_eq_true rfl⟩, hts (.static y_Prec_checkIndex) k_610⟩ [] rfl (by decide) rfl rfl rfl hl.1 rfl (Nat.le_of_ble_eq_true rfl) d_Str_checkIndex_5 ⟨Nat.le_of_ble_eq_true rfl, Nat.le_of_ble_eq_true rfl⟩ (st1 := [.int x]) (c1 := 0) (s1 := 0) rfl rfl rfl (fun H locs hP hD hS => ?_)
    refine lv_pop hx hb d_Str_checkIndex_8 rfl ?_
    exact ly_vret hx hb hr hlocks hP hD hS d_Str_checkIndex_9 rfl rfl
  · skip
    refine va_gets hx hb hx_ hS hown (hts (.fieldLink R_Str 1053 "jdk/internal/util/Preconditions" "SIOOBE_FORMATTER" "Ljava/util/function/BiFunction;") k_606) (fun _ h9 => h9) d_Str_checkIndex_2 ?_
    refine ly_callS (rest := []) (wf := []) ⟨hx, hb, hml, hown, hts⟩ hA hK hZ hP hD hS (c_Prec_checkIndex l G x z x_ h1 h2) ⟨callB_of 3 hts g_Str_1059 rfl rfl rfl (hts (.initialized R_Prec) k_608) (hts (.methodLink R_Str 1059 y_Prec_checkIndex) k_609) (by decide +kernel) ⟨Nat.le_of_ble_eq_true rfl, Nat.le_of_ble_eq_true rfl⟩, hts (.static y_Prec_checkIndex) k_610⟩ [] rfl (by decide) rfl rfl rfl hl.1 rfl (Nat.le_of_ble_eq_true rfl) d_Str_checkIndex_5 ⟨Nat.le_of_ble_eq_true rfl, Nat.le_of_ble_eq_true rfl⟩ (st1 := [.int x]) (c1 := 0) (s1 := 0) rfl rfl rfl (fun H locs hP hD hS => ?_)
    refine lv_pop hx hb d_Str_checkIndex_8 rfl ?_
    exact ly_vret hx hb hr hlocks hP hD hS d_Str_checkIndex_9 rfl rfl

theorem nar_Lat {k : Nat} {x : Int32} : narrow .char (.int (s_Lat_charAt k x)) = .int (s_Lat_charAt k x) := sc_nar9 _
set_option maxHeartbeats 4000000 in
set_option maxRecDepth 100000 in
theorem c_Lat_charAt (l : Launch) (G : GG)  (k : Nat) (x : Int32) (hk_k : k < nS) (hin_ : vp_in x (lenS.getD k 0)) : Det l G y_Lat_charAt w_Lat_charAt (rmD 2) 0 0 [.ref (G.2.2.2 k), .int x] [] (some (.int (s_Lat_charAt k x))) [] := by
  refine Det.of (cc := b_Lat_charAt) (maxL := 2) (ret := (some .char)) (by decide) rfl (Nat.le_of_ble_eq_true rfl) ?_
  intro p e s m args below meth c A ls hx hb hr hml hown hts hlocks hin hA hK hZ hP hD hS hl
  have hts : ∀ w ∈ wG, w.before args s = true := fun w h => hts w (List.mem_cons_of_mem _ h)
  have hown : s.vm.findClass R_Lat = some m.cls := hown
  have hl : lv_has ls 2 [(0, .ref (G.2.2.2 k)), (1, .int x)] := hl
  refine lv_iload_n hx hb d_Lat_charAt_0 rfl (lv_at hl 1 rfl) ?_
  refine lv_aload_n hx hb d_Lat_charAt_1 rfl (lv_at hl 0 rfl) ?_
  refine va_tlen hx hb (hZ.1.1 k hk_k).2.2.2 hS rfl d_Lat_charAt_2 ?_
  refine ly_callS (rest := []) (wf := []) ⟨hx, hb, hml, hown, hts⟩ hA hK hZ hP hD hS (c_Str_checkIndex l G x (Int32.ofNat (lenS.getD k 0)) (vi_1 hin_) (vi_2 (lenS_lt k hk_k) hin_)) ⟨callB_of 2 hts g_Lat_9 rfl rfl rfl (hts (.initialized R_Str) k_604) (hts (.methodLink R_Lat 9 y_Str_checkIndex) k_612) (by decide +kernel) ⟨Nat.le_of_ble_eq_true rfl, Nat.le_of_ble_eq_true rfl⟩, hts (.static y_Str_checkIndex) k_613⟩ [] rfl (by decide) rfl rfl rfl hl.1 rfl (Nat.le_of_ble_eq_true rfl) d_Lat_charAt_3 ⟨Nat.le_of_ble_eq_true rfl, Nat.le_of_ble_eq_true rfl⟩ (st1 := []) (c1 := 0) (s1 := 0) rfl rfl rfl (fun H locs hP hD hS => ?_)
  refine lv_aload_n hx hb d_Lat_charAt_6 rfl (lv_at hl 0 rfl) ?_
  refine lv_iload_n hx hb d_Lat_charAt_7 rfl (lv_at hl 1 rfl) ?_
  refine va_tb (v := .int ((bytS.getD k []).getD x.toNatClampNeg 0)) hx hb (hZ.1.1 k hk_k).2.2.2 hS hin_ rfl d_Lat_charAt_8 ?_
  refine lv_sipush (v := 255) hx hb d_Lat_charAt_9 (by decide) ?_
  refine lv_iand hx hb d_Lat_charAt_12 ?_
  refine lv_i2c (v := ((((bytS.getD k []).getD x.toNatClampNeg 0) &&& 255).toUInt32 % 65536).toInt32) hx hb d_Lat_charAt_13 rfl ?_
  exact ly_zret hx hb hr hlocks hP hD hS d_Lat_charAt_14 (sc_nar9 _) (by rw [s_Lat_charAt]) rfl

set_option maxHeartbeats 4000000 in
set_option maxRecDepth 100000 in
theorem c_Str_charAt (l : Launch) (G : GG)  (k : Nat) (x : Int32) (hk_k : k < nS) (hin_ : vp_in x (lenS.getD k 0)) : Det l G y_Str_charAt w_Str_charAt (rmD 3) 0 0 [.ref (G.2.2.1 k), .int x] [] (some (.int (s_Str_charAt k x))) [] := by
  refine Det.of (cc := b_Str_charAt) (maxL := 2) (ret := (some .char)) (by decide) rfl (Nat.le_of_ble_eq_true rfl) ?_
  intro p e s m args below meth c A ls hx hb hr hml hown hts hlocks hin hA hK hZ hP hD hS hl
  have hts : ∀ w ∈ wG, w.before args s = true := fun w h => hts w (List.mem_cons_of_mem _ h)
  have hown : s.vm.findClass R_Str = some m.cls := hown
  have hl : lv_has ls 2 [(0, .ref (G.2.2.1 k)), (1, .int x)] := hl
  refine lv_aload_n hx hb d_Str_charAt_0 rfl (lv_at hl 0 rfl) ?_
  refine ly_callL (rest := []) (wf := []) ⟨hx, hb, hml, hown, hts⟩ hA hK hZ hP hD hS (c_Str_isLatin1 l G k hk_k) (cwV 0 hts g_Str_492 rfl rfl rfl (by decide +kernel) ⟨Nat.le_of_ble_eq_true rfl, Nat.le_of_ble_eq_true rfl⟩) (i := k) hk_k [] rfl (by decide) rfl rfl rfl hl.1 rfl (Nat.le_of_ble_eq_true rfl) d_Str_charAt_1 ⟨Nat.le_of_ble_eq_true rfl, Nat.le_of_ble_eq_true rfl⟩ (st1 := [.int 1]) (c1 := 0) (s1 := 0) rfl rfl rfl (fun H locs hP hD hS => ?_)
  refine lv_if_eq (tgt := 16) hx hb d_Str_charAt_4 (by decide) (fun c1 => ?_) (fun c1 => ?_)
  · exact absurd c1 (by decide)
  refine lv_aload_n hx hb d_Str_charAt_7 rfl (lv_at hl 0 rfl) ?_
  refine vk_getf hx hb (hZ.1.1 k hk_k).2.2.1 hS hown (hts (.fieldLink R_Str 9 "java/lang/String" "value" "[B") k_600) (fun _ h9 => h9) d_Str_charAt_8 ?_
  refine lv_iload_n hx hb d_Str_charAt_11 rfl (lv_at hl 1 rfl) ?_
  obtain ⟨r1, hr1⟩ : ∃ r, (s_Lat_charAt k x) = r := ⟨_, rfl⟩
  have hC_r1 := (c_Lat_charAt l G k x hk_k hin_)
  rw [hr1] at hC_r1
  have hf_r1_1 : narrow .char (.int r1) = .int r1 := by rw [← hr1]; exact nar_Lat
  refine ly_callS (rest := []) (wf := []) ⟨hx, hb, hml, hown, hts⟩ hA hK hZ hP hD hS hC_r1 ⟨callB_of 2 hts g_Str_495 rfl rfl rfl (hts (.initialized R_Lat) k_619) (hts (.methodLink R_Str 495 y_Lat_charAt) k_620) (by decide +kernel) ⟨Nat.le_of_ble_eq_true rfl, Nat.le_of_ble_eq_true rfl⟩, hts (.static y_Lat_charAt) k_621⟩ [] rfl (by decide) rfl rfl rfl hl.1 rfl (Nat.le_of_ble_eq_true rfl) d_Str_charAt_12 ⟨Nat.le_of_ble_eq_true rfl, Nat.le_of_ble_eq_true rfl⟩ (st1 := [.int r1]) (c1 := 0) (s1 := 0) rfl rfl rfl (fun H locs hP hD hS => ?_)
  exact ly_zret hx hb hr hlocks hP hD hS d_Str_charAt_15 hf_r1_1 (by rw [s_Str_charAt] <;> simp only [hr1]) rfl

set_option maxHeartbeats 4000000 in
set_option maxRecDepth 100000 in
theorem c_Arr_fill26 (l : Launch) (G : GG) (aa : Nat) (af : Nat → Int32) (x : Int32) (hok : ok_Arr_fill26 af x) : Det l G y_Arr_fill w_Arr_fill (rmD 0) 0 0 [.ref aa, .int x] [(aa, .inl (gI G, 26, .inl af))] none [(aa, .inl (gI G, 26, .inl (lp_Arr_fill26_5 x 27 (0 : Int32) af)))] := by
  refine Det.of (cc := b_Arr_fill) (maxL := 4) (ret := none) (by decide) rfl (Nat.le_of_ble_eq_true rfl) ?_
  intro p e s m args below meth c A ls hx hb hr hml hown hts hlocks hin hA hK hZ hP hD hS hl
  have hts : ∀ w ∈ wG, w.before args s = true := fun w h => hts w (List.mem_cons_of_mem _ h)
  have hown : s.vm.findClass R_Arr = some m.cls := hown
  have loop_5 : ∀ (n : Nat) (i2 : Int32) (g_aa : Nat → Int32), (oklp_Arr_fill26_5 x n i2 g_aa) → ∀ (H : Heap) (locs : List Loc) (ls : Array Slot), va_P G.1 classes [(aa, .inl (gI G, 26, .inl g_aa))] H → va_D A [(aa, .inl (gI G, 26, .inl g_aa))] → va_S A s.heap H locs → lv_has ls 4 [(3, .int 26), (2, .int i2), (0, .ref aa), (1, .int x)] → W p l e (rmD 0) s m args below meth c H locs 0 0 (MQ below (ly_Q G A none [(aa, .inl (gI G, 26, .inl (lp_Arr_fill26_5 x n i2 g_aa)))]) args s 0 0 A) (F0 m 5 ls []) := by
    intro n
    induction n with
    | zero => intro i2 g_aa hok; exact absurd hok (fun h => h)
    | succ n ih =>
      intro i2 g_aa hok H locs ls hP hD hS hl
      rw [oklp_Arr_fill26_5] at hok
      refine lv_iload_n hx hb d_Arr_fill_5 rfl (lv_at hl 1 rfl) ?_
      refine lv_iload_n hx hb d_Arr_fill_6 rfl (lv_at hl 0 rfl) ?_
      refine lv_icmp_ge (tgt := 20) hx hb d_Arr_fill_7 (by decide) (fun c1 => ?_) (fun c1 => ?_)
      · skip
        rw [if_pos c1] at hok
        exact ly_vret hx hb hr hlocks hP hD hS d_Arr_fill_20 rfl (by rw [lp_Arr_fill26_5, if_pos c1])
      rw [if_neg c1] at hok
      refine lv_aload_n hx hb d_Arr_fill_10 rfl (lv_at hl 2 rfl) ?_
      refine lv_iload_n hx hb d_Arr_fill_11 rfl (lv_at hl 1 rfl) ?_
      refine lv_iload_n hx hb d_Arr_fill_12 rfl (lv_at hl 3 rfl) ?_
      obtain ⟨hv1, hok⟩ := hok
      refine va_iast hx hb hK hP hD hS 0 0 rfl rfl hv1 d_Arr_fill_13 (fun H locs hP hD hS => ?_)
      have hP : va_P G.1 classes [(aa, .inl (gI G, 26, .inl (upd g_aa i2.toNatClampNeg x)))] H := hP
      have hD : va_D A [(aa, .inl (gI G, 26, .inl (upd g_aa i2.toNatClampNeg x)))] := hD
      refine lv_iinc (v := i2 + 1) (lv' := [(2, .int (i2 + 1)), (3, .int 26), (0, .ref aa), (1, .int x)]) hx hb d_Arr_fill_14 hl (k := 1) rfl (by rfl) (by decide) rfl (fun ls hl => ?_)
      refine lv_goto (tgt := 5) hx hb d_Arr_fill_17 (by decide) ?_
      have e_ : (lp_Arr_fill26_5 x (n + 1) i2 g_aa) = (lp_Arr_fill26_5 x n (i2 + 1) (upd g_aa i2.toNatClampNeg x)) := (by rw [lp_Arr_fill26_5, if_neg c1])
      rw [e_]
      exact ih (i2 + 1) (upd g_aa i2.toNatClampNeg x) hok _ _ _ hP hD hS (lv_sub hl [1, 0, 2, 3] rfl)
  have hl : lv_has ls 4 [(0, .ref aa), (1, .int x)] := hl
  rw [ok_Arr_fill26] at hok
  refine lv_iconst (v := 0) hx hb d_Arr_fill_0 (by decide) ?_
  refine lv_istore_n (lv' := [(2, .int 0), (0, .ref aa), (1, .int x)]) hx hb d_Arr_fill_1 rfl hl (by decide) rfl (fun ls hl => ?_)
  refine lv_aload_n hx hb d_Arr_fill_2 rfl (lv_at hl 1 rfl) ?_
  refine va_alen (v := 26) hx hb hK hP 0 0 rfl rfl (show Int32.ofNat 26 = 26 by decide) d_Arr_fill_3 ?_
  refine lv_istore_n (lv' := [(3, .int 26), (2, .int 0), (0, .ref aa), (1, .int x)]) hx hb d_Arr_fill_4 rfl hl (by decide) rfl (fun ls hl => ?_)
  exact loop_5 27 (0 : Int32) af hok _ _ _ hP hD hS (lv_sub hl [0, 1, 2, 3] rfl)

set_option maxHeartbeats 4000000 in
set_option maxRecDepth 100000 in
theorem c_Arr_fill240 (l : Launch) (G : GG) (aa : Nat) (af : Nat → Int32) (x : Int32) (hok : ok_Arr_fill240 af x) : Det l G y_Arr_fill w_Arr_fill (rmD 0) 0 0 [.ref aa, .int x] [(aa, .inl (gI G, 240, .inl af))] none [(aa, .inl (gI G, 240, .inl (lp_Arr_fill240_5 x 241 (0 : Int32) af)))] := by
  refine Det.of (cc := b_Arr_fill) (maxL := 4) (ret := none) (by decide) rfl (Nat.le_of_ble_eq_true rfl) ?_
  intro p e s m args below meth c A ls hx hb hr hml hown hts hlocks hin hA hK hZ hP hD hS hl
  have hts : ∀ w ∈ wG, w.before args s = true := fun w h => hts w (List.mem_cons_of_mem _ h)
  have hown : s.vm.findClass R_Arr = some m.cls := hown
  have loop_5 : ∀ (n : Nat) (i2 : Int32) (g_aa : Nat → Int32), (oklp_Arr_fill240_5 x n i2 g_aa) → ∀ (H : Heap) (locs : List Loc) (ls : Array Slot), va_P G.1 classes [(aa, .inl (gI G, 240, .inl g_aa))] H → va_D A [(aa, .inl (gI G, 240, .inl g_aa))] → va_S A s.heap H locs → lv_has ls 4 [(3, .int 240), (2, .int i2), (0, .ref aa), (1, .int x)] → W p l e (rmD 0) s m args below meth c H locs 0 0 (MQ below (ly_Q G A none [(aa, .inl (gI G, 240, .inl (lp_Arr_fill240_5 x n i2 g_aa)))]) args s 0 0 A) (F0 m 5 ls []) := by
    intro n
    induction n with
    | zero => intro i2 g_aa hok; exact absurd hok (fun h => h)
    | succ n ih =>
      intro i2 g_aa hok H locs ls hP hD hS hl
      rw [oklp_Arr_fill240_5] at hok
      refine lv_iload_n hx hb d_Arr_fill_5 rfl (lv_at hl 1 rfl) ?_
      refine lv_iload_n hx hb d_Arr_fill_6 rfl (lv_at hl 0 rfl) ?_
      refine lv_icmp_ge (tgt := 20) hx hb d_Arr_fill_7 (by decide) (fun c1 => ?_) (fun c1 => ?_)
      · skip
        rw [if_pos c1] at hok
        exact ly_vret hx hb hr hlocks hP hD hS d_Arr_fill_20 rfl (by rw [lp_Arr_fill240_5, if_pos c1])
      rw [if_neg c1] at hok
      refine lv_aload_n hx hb d_Arr_fill_10 rfl (lv_at hl 2 rfl) ?_
      refine lv_iload_n hx hb d_Arr_fill_11 rfl (lv_at hl 1 rfl) ?_
      refine lv_iload_n hx hb d_Arr_fill_12 rfl (lv_at hl 3 rfl) ?_
      obtain ⟨hv1, hok⟩ := hok
      refine va_iast hx hb hK hP hD hS 0 0 rfl rfl hv1 d_Arr_fill_13 (fun H locs hP hD hS => ?_)
      have hP : va_P G.1 classes [(aa, .inl (gI G, 240, .inl (upd g_aa i2.toNatClampNeg x)))] H := hP
      have hD : va_D A [(aa, .inl (gI G, 240, .inl (upd g_aa i2.toNatClampNeg x)))] := hD
      refine lv_iinc (v := i2 + 1) (lv' := [(2, .int (i2 + 1)), (3, .int 240), (0, .ref aa), (1, .int x)]) hx hb d_Arr_fill_14 hl (k := 1) rfl (by rfl) (by decide) rfl (fun ls hl => ?_)
      refine lv_goto (tgt := 5) hx hb d_Arr_fill_17 (by decide) ?_
      have e_ : (lp_Arr_fill240_5 x (n + 1) i2 g_aa) = (lp_Arr_fill240_5 x n (i2 + 1) (upd g_aa i2.toNatClampNeg x)) := (by rw [lp_Arr_fill240_5, if_neg c1])
      rw [e_]
      exact ih (i2 + 1) (upd g_aa i2.toNatClampNeg x) hok _ _ _ hP hD hS (lv_sub hl [1, 0, 2, 3] rfl)
  have hl : lv_has ls 4 [(0, .ref aa), (1, .int x)] := hl
  rw [ok_Arr_fill240] at hok
  refine lv_iconst (v := 0) hx hb d_Arr_fill_0 (by decide) ?_
  refine lv_istore_n (lv' := [(2, .int 0), (0, .ref aa), (1, .int x)]) hx hb d_Arr_fill_1 rfl hl (by decide) rfl (fun ls hl => ?_)
  refine lv_aload_n hx hb d_Arr_fill_2 rfl (lv_at hl 1 rfl) ?_
  refine va_alen (v := 240) hx hb hK hP 0 0 rfl rfl (show Int32.ofNat 240 = 240 by decide) d_Arr_fill_3 ?_
  refine lv_istore_n (lv' := [(3, .int 240), (2, .int 0), (0, .ref aa), (1, .int x)]) hx hb d_Arr_fill_4 rfl hl (by decide) rfl (fun ls hl => ?_)
  exact loop_5 241 (0 : Int32) af hok _ _ _ hP hD hS (lv_sub hl [0, 1, 2, 3] rfl)
