theorem d_Tab_init_0 : decode b_Tab_init 0 = .ok (.aload_n 0, 1) := by decide +kernel
theorem d_Tab_init_1 : decode b_Tab_init 1 = .ok (.invokespecial 1, 3) := by decide +kernel
theorem d_Tab_init_4 : decode b_Tab_init 4 = .ok (.aload_n 0, 1) := by decide +kernel
theorem d_Tab_init_5 : decode b_Tab_init 5 = .ok (.sipush 360, 3) := by decide +kernel
theorem d_Tab_init_8 : decode b_Tab_init 8 = .ok (.newarray .int, 2) := by decide +kernel
theorem d_Tab_init_10 : decode b_Tab_init 10 = .ok (.putfield 9, 3) := by decide +kernel
theorem d_Tab_init_13 : decode b_Tab_init 13 = .ok (.aload_n 0, 1) := by decide +kernel
theorem d_Tab_init_14 : decode b_Tab_init 14 = .ok (.iconst 0, 1) := by decide +kernel
theorem d_Tab_init_15 : decode b_Tab_init 15 = .ok (.putfield 13, 3) := by decide +kernel
theorem d_Tab_init_18 : decode b_Tab_init 18 = .ok (.return_, 1) := by decide +kernel
theorem d_Tape_init_0 : decode b_Tape_init 0 = .ok (.aload_n 0, 1) := by decide +kernel
theorem d_Tape_init_1 : decode b_Tape_init 1 = .ok (.invokespecial 1, 3) := by decide +kernel
theorem d_Tape_init_4 : decode b_Tape_init 4 = .ok (.aload_n 0, 1) := by decide +kernel
theorem d_Tape_init_5 : decode b_Tape_init 5 = .ok (.iload_n 1, 1) := by decide +kernel
theorem d_Tape_init_6 : decode b_Tape_init 6 = .ok (.putfield 7, 3) := by decide +kernel
theorem d_Tape_init_9 : decode b_Tape_init 9 = .ok (.aload_n 0, 1) := by decide +kernel
theorem d_Tape_init_10 : decode b_Tape_init 10 = .ok (.iload_n 2, 1) := by decide +kernel
theorem d_Tape_init_11 : decode b_Tape_init 11 = .ok (.putfield 13, 3) := by decide +kernel
theorem d_Tape_init_14 : decode b_Tape_init 14 = .ok (.aload_n 0, 1) := by decide +kernel
theorem d_Tape_init_15 : decode b_Tape_init 15 = .ok (.sipush 3000, 3) := by decide +kernel
theorem d_Tape_init_18 : decode b_Tape_init 18 = .ok (.newarray .int, 2) := by decide +kernel
theorem d_Tape_init_20 : decode b_Tape_init 20 = .ok (.putfield 16, 3) := by decide +kernel
theorem d_Tape_init_23 : decode b_Tape_init 23 = .ok (.aload_n 0, 1) := by decide +kernel
theorem d_Tape_init_24 : decode b_Tape_init 24 = .ok (.iconst 0, 1) := by decide +kernel
theorem d_Tape_init_25 : decode b_Tape_init 25 = .ok (.putfield 20, 3) := by decide +kernel
theorem d_Tape_init_28 : decode b_Tape_init 28 = .ok (.return_, 1) := by decide +kernel
theorem d_Pur_init_0 : decode b_Pur_init 0 = .ok (.aload_n 0, 1) := by decide +kernel
theorem d_Pur_init_1 : decode b_Pur_init 1 = .ok (.invokespecial 1, 3) := by decide +kernel
theorem d_Pur_init_4 : decode b_Pur_init 4 = .ok (.aload_n 0, 1) := by decide +kernel
theorem d_Pur_init_5 : decode b_Pur_init 5 = .ok (.iconst 5, 1) := by decide +kernel
theorem d_Pur_init_6 : decode b_Pur_init 6 = .ok (.newarray .int, 2) := by decide +kernel
theorem d_Pur_init_8 : decode b_Pur_init 8 = .ok (.putfield 9, 3) := by decide +kernel
theorem d_Pur_init_11 : decode b_Pur_init 11 = .ok (.aload_n 0, 1) := by decide +kernel
theorem d_Pur_init_12 : decode b_Pur_init 12 = .ok (.iconst 5, 1) := by decide +kernel
theorem d_Pur_init_13 : decode b_Pur_init 13 = .ok (.newarray .int, 2) := by decide +kernel
theorem d_Pur_init_15 : decode b_Pur_init 15 = .ok (.putfield 13, 3) := by decide +kernel
theorem d_Pur_init_18 : decode b_Pur_init 18 = .ok (.return_, 1) := by decide +kernel
theorem d_Text_init_0 : decode b_Text_init 0 = .ok (.aload_n 0, 1) := by decide +kernel
theorem d_Text_init_1 : decode b_Text_init 1 = .ok (.invokespecial 1, 3) := by decide +kernel
theorem d_Text_init_4 : decode b_Text_init 4 = .ok (.aload_n 0, 1) := by decide +kernel
theorem d_Text_init_5 : decode b_Text_init 5 = .ok (.sipush 2000, 3) := by decide +kernel
theorem d_Text_init_8 : decode b_Text_init 8 = .ok (.newarray .char, 2) := by decide +kernel
theorem d_Text_init_10 : decode b_Text_init 10 = .ok (.putfield 9, 3) := by decide +kernel
theorem d_Text_init_13 : decode b_Text_init 13 = .ok (.aload_n 0, 1) := by decide +kernel
theorem d_Text_init_14 : decode b_Text_init 14 = .ok (.iconst 0, 1) := by decide +kernel
theorem d_Text_init_15 : decode b_Text_init 15 = .ok (.putfield 13, 3) := by decide +kernel
theorem d_Text_init_18 : decode b_Text_init 18 = .ok (.return_, 1) := by decide +kernel
theorem d_Out_init_0 : decode b_Out_init 0 = .ok (.aload_n 0, 1) := by decide +kernel
theorem d_Out_init_1 : decode b_Out_init 1 = .ok (.invokespecial 5, 3) := by decide +kernel
theorem d_Out_init_4 : decode b_Out_init 4 = .ok (.aload_n 0, 1) := by decide +kernel
theorem d_Out_init_5 : decode b_Out_init 5 = .ok (.sipush 4000, 3) := by decide +kernel
theorem d_Out_init_8 : decode b_Out_init 8 = .ok (.newarray .char, 2) := by decide +kernel
theorem d_Out_init_10 : decode b_Out_init 10 = .ok (.putfield 13, 3) := by decide +kernel
theorem d_Out_init_13 : decode b_Out_init 13 = .ok (.aload_n 0, 1) := by decide +kernel
theorem d_Out_init_14 : decode b_Out_init 14 = .ok (.iconst 0, 1) := by decide +kernel
theorem d_Out_init_15 : decode b_Out_init 15 = .ok (.putfield 17, 3) := by decide +kernel
theorem d_Out_init_18 : decode b_Out_init 18 = .ok (.return_, 1) := by decide +kernel
theorem d_Prod_init_0 : decode b_Prod_init 0 = .ok (.aload_n 0, 1) := by decide +kernel
theorem d_Prod_init_1 : decode b_Prod_init 1 = .ok (.invokespecial 1, 3) := by decide +kernel
theorem d_Prod_init_4 : decode b_Prod_init 4 = .ok (.aload_n 0, 1) := by decide +kernel
theorem d_Prod_init_5 : decode b_Prod_init 5 = .ok (.bipush 96, 2) := by decide +kernel
theorem d_Prod_init_7 : decode b_Prod_init 7 = .ok (.newarray .int, 2) := by decide +kernel
theorem d_Prod_init_9 : decode b_Prod_init 9 = .ok (.putfield 9, 3) := by decide +kernel
theorem d_Prod_init_12 : decode b_Prod_init 12 = .ok (.aload_n 0, 1) := by decide +kernel
theorem d_Prod_init_13 : decode b_Prod_init 13 = .ok (.iconst 0, 1) := by decide +kernel
theorem d_Prod_init_14 : decode b_Prod_init 14 = .ok (.putfield 13, 3) := by decide +kernel
theorem d_Prod_init_17 : decode b_Prod_init 17 = .ok (.return_, 1) := by decide +kernel
theorem d_Tok_init_0 : decode b_Tok_init 0 = .ok (.aload_n 0, 1) := by decide +kernel
theorem d_Tok_init_1 : decode b_Tok_init 1 = .ok (.invokespecial 1, 3) := by decide +kernel
theorem d_Tok_init_4 : decode b_Tok_init 4 = .ok (.aload_n 0, 1) := by decide +kernel
theorem d_Tok_init_5 : decode b_Tok_init 5 = .ok (.sipush 2001, 3) := by decide +kernel
theorem d_Tok_init_8 : decode b_Tok_init 8 = .ok (.newarray .int, 2) := by decide +kernel
theorem d_Tok_init_10 : decode b_Tok_init 10 = .ok (.putfield 9, 3) := by decide +kernel
theorem d_Tok_init_13 : decode b_Tok_init 13 = .ok (.aload_n 0, 1) := by decide +kernel
theorem d_Tok_init_14 : decode b_Tok_init 14 = .ok (.sipush 2001, 3) := by decide +kernel
theorem d_Tok_init_17 : decode b_Tok_init 17 = .ok (.newarray .int, 2) := by decide +kernel
theorem d_Tok_init_19 : decode b_Tok_init 19 = .ok (.putfield 15, 3) := by decide +kernel
theorem d_Tok_init_22 : decode b_Tok_init 22 = .ok (.aload_n 0, 1) := by decide +kernel
theorem d_Tok_init_23 : decode b_Tok_init 23 = .ok (.sipush 2001, 3) := by decide +kernel
theorem d_Tok_init_26 : decode b_Tok_init 26 = .ok (.newarray .int, 2) := by decide +kernel
theorem d_Tok_init_28 : decode b_Tok_init 28 = .ok (.putfield 18, 3) := by decide +kernel
theorem d_Tok_init_31 : decode b_Tok_init 31 = .ok (.aload_n 0, 1) := by decide +kernel
theorem d_Tok_init_32 : decode b_Tok_init 32 = .ok (.iconst 0, 1) := by decide +kernel
theorem d_Tok_init_33 : decode b_Tok_init 33 = .ok (.putfield 21, 3) := by decide +kernel
theorem d_Tok_init_36 : decode b_Tok_init 36 = .ok (.return_, 1) := by decide +kernel
theorem d_Cond_init_0 : decode b_Cond_init 0 = .ok (.aload_n 0, 1) := by decide +kernel
theorem d_Cond_init_1 : decode b_Cond_init 1 = .ok (.invokespecial 3, 3) := by decide +kernel
theorem d_Cond_init_4 : decode b_Cond_init 4 = .ok (.aload_n 0, 1) := by decide +kernel
theorem d_Cond_init_5 : decode b_Cond_init 5 = .ok (.sipush 2000, 3) := by decide +kernel
theorem d_Cond_init_8 : decode b_Cond_init 8 = .ok (.newarray .int, 2) := by decide +kernel
theorem d_Cond_init_10 : decode b_Cond_init 10 = .ok (.putfield 11, 3) := by decide +kernel
theorem d_Cond_init_13 : decode b_Cond_init 13 = .ok (.aload_n 0, 1) := by decide +kernel
theorem d_Cond_init_14 : decode b_Cond_init 14 = .ok (.sipush 2000, 3) := by decide +kernel
theorem d_Cond_init_17 : decode b_Cond_init 17 = .ok (.newarray .int, 2) := by decide +kernel
theorem d_Cond_init_19 : decode b_Cond_init 19 = .ok (.putfield 15, 3) := by decide +kernel
theorem d_Cond_init_22 : decode b_Cond_init 22 = .ok (.aload_n 0, 1) := by decide +kernel
theorem d_Cond_init_23 : decode b_Cond_init 23 = .ok (.iconst 0, 1) := by decide +kernel
theorem d_Cond_init_24 : decode b_Cond_init 24 = .ok (.putfield 18, 3) := by decide +kernel
theorem d_Cond_init_27 : decode b_Cond_init 27 = .ok (.aload_n 0, 1) := by decide +kernel
theorem d_Cond_init_28 : decode b_Cond_init 28 = .ok (.bipush 64, 2) := by decide +kernel
theorem d_Cond_init_30 : decode b_Cond_init 30 = .ok (.newarray .int, 2) := by decide +kernel
theorem d_Cond_init_32 : decode b_Cond_init 32 = .ok (.putfield 22, 3) := by decide +kernel
theorem d_Cond_init_35 : decode b_Cond_init 35 = .ok (.aload_n 0, 1) := by decide +kernel
theorem d_Cond_init_36 : decode b_Cond_init 36 = .ok (.iconst 0, 1) := by decide +kernel
theorem d_Cond_init_37 : decode b_Cond_init 37 = .ok (.putfield 25, 3) := by decide +kernel
theorem d_Cond_init_40 : decode b_Cond_init 40 = .ok (.aload_n 0, 1) := by decide +kernel
theorem d_Cond_init_41 : decode b_Cond_init 41 = .ok (.bipush 10, 2) := by decide +kernel
theorem d_Cond_init_43 : decode b_Cond_init 43 = .ok (.newarray .boolean, 2) := by decide +kernel
theorem d_Cond_init_45 : decode b_Cond_init 45 = .ok (.putfield 30, 3) := by decide +kernel
theorem d_Cond_init_48 : decode b_Cond_init 48 = .ok (.return_, 1) := by decide +kernel
theorem d_Qu_init_0 : decode b_Qu_init 0 = .ok (.aload_n 0, 1) := by decide +kernel
theorem d_Qu_init_1 : decode b_Qu_init 1 = .ok (.invokespecial 3, 3) := by decide +kernel
theorem d_Qu_init_4 : decode b_Qu_init 4 = .ok (.aload_n 0, 1) := by decide +kernel
theorem d_Qu_init_5 : decode b_Qu_init 5 = .ok (.iconst 1, 1) := by decide +kernel
theorem d_Qu_init_6 : decode b_Qu_init 6 = .ok (.putfield 9, 3) := by decide +kernel
theorem d_Qu_init_9 : decode b_Qu_init 9 = .ok (.return_, 1) := by decide +kernel
theorem d_Par_init_0 : decode b_Par_init 0 = .ok (.aload_n 0, 1) := by decide +kernel
theorem d_Par_init_1 : decode b_Par_init 1 = .ok (.invokespecial 3, 3) := by decide +kernel
theorem d_Par_init_4 : decode b_Par_init 4 = .ok (.aload_n 0, 1) := by decide +kernel
theorem d_Par_init_5 : decode b_Par_init 5 = .ok (.aload_n 1, 1) := by decide +kernel
theorem d_Par_init_6 : decode b_Par_init 6 = .ok (.putfield 9, 3) := by decide +kernel
theorem d_Par_init_9 : decode b_Par_init 9 = .ok (.aload_n 0, 1) := by decide +kernel
theorem d_Par_init_10 : decode b_Par_init 10 = .ok (.aload_n 1, 1) := by decide +kernel
theorem d_Par_init_11 : decode b_Par_init 11 = .ok (.getfield 15, 3) := by decide +kernel
theorem d_Par_init_14 : decode b_Par_init 14 = .ok (.putfield 21, 3) := by decide +kernel
theorem d_Par_init_17 : decode b_Par_init 17 = .ok (.aload_n 0, 1) := by decide +kernel
theorem d_Par_init_18 : decode b_Par_init 18 = .ok (.aload_n 1, 1) := by decide +kernel
theorem d_Par_init_19 : decode b_Par_init 19 = .ok (.getfield 22, 3) := by decide +kernel
theorem d_Par_init_22 : decode b_Par_init 22 = .ok (.putfield 26, 3) := by decide +kernel
theorem d_Par_init_25 : decode b_Par_init 25 = .ok (.aload_n 0, 1) := by decide +kernel
theorem d_Par_init_26 : decode b_Par_init 26 = .ok (.iconst 0, 1) := by decide +kernel
theorem d_Par_init_27 : decode b_Par_init 27 = .ok (.putfield 27, 3) := by decide +kernel
theorem d_Par_init_30 : decode b_Par_init 30 = .ok (.aload_n 0, 1) := by decide +kernel
theorem d_Par_init_31 : decode b_Par_init 31 = .ok (.iconst 0, 1) := by decide +kernel
theorem d_Par_init_32 : decode b_Par_init 32 = .ok (.putfield 31, 3) := by decide +kernel
theorem d_Par_init_35 : decode b_Par_init 35 = .ok (.return_, 1) := by decide +kernel
theorem k_813 : (.methodLink R_Tab 1 objectInit : Cond) ∈ wG := wGm 127 (by decide +kernel) (by decide +kernel)
theorem k_814 : (.instanceMethod objectInit : Cond) ∈ wG := wGm 111 (by decide +kernel) (by decide +kernel)
theorem k_815 : (.code objectInit ⟨#[0xb1]⟩ 1 none : Cond) ∈ wG := wGm 112 (by decide +kernel) (by decide +kernel)
theorem k_816 : (.arrayClass .int : Cond) ∈ wG := wGm 135 (by decide +kernel) (by decide +kernel)
theorem k_817 : (.methodLink R_Tape 1 objectInit : Cond) ∈ wG := wGm 141 (by decide +kernel) (by decide +kernel)
theorem k_818 : (.methodLink R_Pur 1 objectInit : Cond) ∈ wG := wGm 160 (by decide +kernel) (by decide +kernel)
theorem k_819 : (.methodLink R_Text 1 objectInit : Cond) ∈ wG := wGm 173 (by decide +kernel) (by decide +kernel)
theorem k_820 : (.arrayClass .char : Cond) ∈ wG := wGm 181 (by decide +kernel) (by decide +kernel)
theorem k_821 : (.methodLink R_Out 5 objectInit : Cond) ∈ wG := wGm 187 (by decide +kernel) (by decide +kernel)
theorem k_822 : (.methodLink R_Prod 1 objectInit : Cond) ∈ wG := wGm 200 (by decide +kernel) (by decide +kernel)
theorem k_823 : (.methodLink R_Tok 1 objectInit : Cond) ∈ wG := wGm 219 (by decide +kernel) (by decide +kernel)
theorem k_824 : (.methodLink R_Cond 3 objectInit : Cond) ∈ wG := wGm 241 (by decide +kernel) (by decide +kernel)
theorem k_825 : (.arrayClass .boolean : Cond) ∈ wG := wGm 261 (by decide +kernel) (by decide +kernel)
theorem k_826 : (.methodLink R_Qu 3 objectInit : Cond) ∈ wG := wGm 268 (by decide +kernel) (by decide +kernel)
theorem k_827 : (.methodLink R_Par 3 objectInit : Cond) ∈ wG := wGm 620 (by decide +kernel) (by decide +kernel)
theorem k_828 : (.fieldLink R_Par 15 "PrivateQueries$Script" "tokens" "LPrivateQueries$Tokens;" : Cond) ∈ wG := wGm 305 (by decide +kernel) (by decide +kernel)
theorem k_829 : (.fieldLink R_Par 22 "PrivateQueries$Script" "conditions" "LPrivateQueries$Conditions;" : Cond) ∈ wG := wGm 307 (by decide +kernel) (by decide +kernel)
set_option maxHeartbeats 8000000 in
set_option maxRecDepth 100000 in
theorem c_Tab_init (l : Launch) (G : GG) (h : Nat) : DetN l G y_Tab_init w_Tab_init (rmN 1 1 360) 1 360 [.ref h] [(h, .inr (1, [.null, .int 0]))] (fun f g => [(h, .inr (1, [.ref (f 0), .int 0])), (f 0, .inl (gI G, 360, .inl (fun _ => 0)))]) := by
  refine DetN.of (cc := b_Tab_init) (maxL := 1) (ret := none) (by decide) rfl (Nat.le_of_ble_eq_true rfl) ?_
  intro p e s m args below meth c A ls hx hb hr hml hown hts hlocks hin hA hK hZ hO hP hD hS hl
  have hts : ∀ w ∈ wG, w.before args s = true := fun w h => hts w (List.mem_cons_of_mem _ h)
  have hown : s.vm.findClass R_Tab = some m.cls := hown
  have hl : lv_has ls 1 [(0, .ref h)] := hl
  refine lv_aload_n hx hb d_Tab_init_0 rfl (lv_at hl 0 rfl) ?_
  refine W.objInit hx hb hown (hts (.methodLink R_Tab 1 objectInit) k_813) (hts (.instanceMethod objectInit) k_814) (hts (.code objectInit ⟨#[0xb1]⟩ 1 none) k_815) rfl (by rw [hml]; exact hl.1) rfl d_Tab_init_1 (Nat.le_of_ble_eq_true rfl) (Nat.le_of_ble_eq_true rfl) ?_
  refine W.eq (g2 := F0 m 4 ls []) rfl ?_
  refine lv_aload_n hx hb d_Tab_init_4 rfl (lv_at hl 0 rfl) ?_
  refine lv_sipush (v := 360) hx hb d_Tab_init_5 (by decide) ?_
  refine ly_newI hx hb (hts (.arrayClass .int) k_816) hK hP hD hS hA 360 (by decide) (by decide) (by decide) (Nat.le_of_ble_eq_true rfl) (Nat.le_of_ble_eq_true rfl) d_Tab_init_8 (fun q1_ H hP hD hS => ?_)
  have hP : va_P G.1 classes [(h, .inr (1, [.null, .int 0])), (q1_, .inl (gI G, 360, .inl (fun _ => 0)))] H := hP
  have hD : va_D A [(h, .inr (1, [.null, .int 0])), (q1_, .inl (gI G, 360, .inl (fun _ => 0)))] := hD
  refine va_putF (D := G.1) (ci := 1) (v := .ref q1_) (ty := (.array .int)) (C := R_Tab) (T := F_Tab) (N := 2) hx hb hts i_Tab t_Tab t_Tab_ok n_Tab hown hK hP hD hS 0 rfl rfl 0 (by decide) (hts (.fieldLink R_Tab 9 "PrivateQueries$Table" "numbers" "[I") k_1) (fun _ h9 => h9) rfl hin rfl (by decide +kernel) rfl rfl (Nat.le_of_ble_eq_true rfl) d_Tab_init_10 (fun H locs hP hD hS => ?_)
  have hP : va_P G.1 classes [(h, .inr (1, [.ref q1_, .int 0])), (q1_, .inl (gI G, 360, .inl (fun _ => 0)))] H := hP
  have hD : va_D A [(h, .inr (1, [.ref q1_, .int 0])), (q1_, .inl (gI G, 360, .inl (fun _ => 0)))] := hD
  refine lv_aload_n hx hb d_Tab_init_13 rfl (lv_at hl 0 rfl) ?_
  refine lv_iconst (v := 0) hx hb d_Tab_init_14 (by decide) ?_
  refine va_put (D := G.1) (ci := 1) (v := .int 0) (ty := .int) (C := R_Tab) (T := F_Tab) (N := 2) hx hb hts i_Tab t_Tab t_Tab_ok n_Tab hown hK hP hD hS 0 rfl rfl 1 (by decide) (hts (.fieldLink R_Tab 13 "PrivateQueries$Table" "rows" "I") k_0) (fun _ h9 => h9) rfl (by decide +kernel) rfl rfl (Nat.le_of_ble_eq_true rfl) d_Tab_init_15 (fun H locs hP hD hS => ?_)
  have hP : va_P G.1 classes [(h, .inr (1, [.ref q1_, .int 0])), (q1_, .inl (gI G, 360, .inl (fun _ => 0)))] H := hP
  have hD : va_D A [(h, .inr (1, [.ref q1_, .int 0])), (q1_, .inl (gI G, 360, .inl (fun _ => 0)))] := hD
  exact ly_vretN (fun k => [q1_].getD k 0) (fun k => [].getD k (fun _ => 0)) hx hb hr hlocks hP hD hS d_Tab_init_18 rfl

set_option maxHeartbeats 8000000 in
set_option maxRecDepth 100000 in
theorem c_Tape_init (l : Launch) (G : GG) (h : Nat) (x : Int32) (z : Int32) : DetN l G y_Tape_init w_Tape_init (rmN 1 1 3000) 1 3000 [.ref h, .int x, .int z] [(h, .inr (2, [.int 0, .int 0, .null, .int 0]))] (fun f g => [(h, .inr (2, [.int x, .int z, .ref (f 0), .int 0])), (f 0, .inl (gI G, 3000, .inl (fun _ => 0)))]) := by
  refine DetN.of (cc := b_Tape_init) (maxL := 3) (ret := none) (by decide) rfl (Nat.le_of_ble_eq_true rfl) ?_
  intro p e s m args below meth c A ls hx hb hr hml hown hts hlocks hin hA hK hZ hO hP hD hS hl
  have hts : ∀ w ∈ wG, w.before args s = true := fun w h => hts w (List.mem_cons_of_mem _ h)
  have hown : s.vm.findClass R_Tape = some m.cls := hown
  have hl : lv_has ls 3 [(0, .ref h), (1, .int x), (2, .int z)] := hl
  refine lv_aload_n hx hb d_Tape_init_0 rfl (lv_at hl 0 rfl) ?_
  refine W.objInit hx hb hown (hts (.methodLink R_Tape 1 objectInit) k_817) (hts (.instanceMethod objectInit) k_814) (hts (.code objectInit ⟨#[0xb1]⟩ 1 none) k_815) rfl (by rw [hml]; exact hl.1) rfl d_Tape_init_1 (Nat.le_of_ble_eq_true rfl) (Nat.le_of_ble_eq_true rfl) ?_
  refine W.eq (g2 := F0 m 4 ls []) rfl ?_
  refine lv_aload_n hx hb d_Tape_init_4 rfl (lv_at hl 0 rfl) ?_
  refine lv_iload_n hx hb d_Tape_init_5 rfl (lv_at hl 1 rfl) ?_
  refine va_putF (D := G.1) (ci := 2) (v := .int x) (ty := .int) (C := R_Tape) (T := F_Tape) (N := 4) hx hb hts i_Tape t_Tape t_Tape_ok n_Tape hown hK hP hD hS 0 rfl rfl 0 (by decide) (hts (.fieldLink R_Tape 7 "PrivateQueries$Tape" "p" "I") k_8) (fun _ h9 => h9) rfl hin rfl (by decide +kernel) rfl rfl (Nat.le_of_ble_eq_true rfl) d_Tape_init_6 (fun H locs hP hD hS => ?_)
  have hP : va_P G.1 classes [(h, .inr (2, [.int x, .int 0, .null, .int 0]))] H := hP
  have hD : va_D A [(h, .inr (2, [.int x, .int 0, .null, .int 0]))] := hD
  refine lv_aload_n hx hb d_Tape_init_9 rfl (lv_at hl 0 rfl) ?_
  refine lv_iload_n hx hb d_Tape_init_10 rfl (lv_at hl 2 rfl) ?_
  refine va_putF (D := G.1) (ci := 2) (v := .int z) (ty := .int) (C := R_Tape) (T := F_Tape) (N := 4) hx hb hts i_Tape t_Tape t_Tape_ok n_Tape hown hK hP hD hS 0 rfl rfl 1 (by decide) (hts (.fieldLink R_Tape 13 "PrivateQueries$Tape" "q" "I") k_7) (fun _ h9 => h9) rfl hin rfl (by decide +kernel) rfl rfl (Nat.le_of_ble_eq_true rfl) d_Tape_init_11 (fun H locs hP hD hS => ?_)
  have hP : va_P G.1 classes [(h, .inr (2, [.int x, .int z, .null, .int 0]))] H := hP
  have hD : va_D A [(h, .inr (2, [.int x, .int z, .null, .int 0]))] := hD
  refine lv_aload_n hx hb d_Tape_init_14 rfl (lv_at hl 0 rfl) ?_
  refine lv_sipush (v := 3000) hx hb d_Tape_init_15 (by decide) ?_
  refine ly_newI hx hb (hts (.arrayClass .int) k_816) hK hP hD hS hA 3000 (by decide) (by decide) (by decide) (Nat.le_of_ble_eq_true rfl) (Nat.le_of_ble_eq_true rfl) d_Tape_init_18 (fun q1_ H hP hD hS => ?_)
  have hP : va_P G.1 classes [(h, .inr (2, [.int x, .int z, .null, .int 0])), (q1_, .inl (gI G, 3000, .inl (fun _ => 0)))] H := hP
  have hD : va_D A [(h, .inr (2, [.int x, .int z, .null, .int 0])), (q1_, .inl (gI G, 3000, .inl (fun _ => 0)))] := hD
  refine va_putF (D := G.1) (ci := 2) (v := .ref q1_) (ty := (.array .int)) (C := R_Tape) (T := F_Tape) (N := 4) hx hb hts i_Tape t_Tape t_Tape_ok n_Tape hown hK hP hD hS 0 rfl rfl 2 (by decide) (hts (.fieldLink R_Tape 16 "PrivateQueries$Tape" "cells" "[I") k_9) (fun _ h9 => h9) rfl hin rfl (by decide +kernel) rfl rfl (Nat.le_of_ble_eq_true rfl) d_Tape_init_20 (fun H locs hP hD hS => ?_)
  have hP : va_P G.1 classes [(h, .inr (2, [.int x, .int z, .ref q1_, .int 0])), (q1_, .inl (gI G, 3000, .inl (fun _ => 0)))] H := hP
  have hD : va_D A [(h, .inr (2, [.int x, .int z, .ref q1_, .int 0])), (q1_, .inl (gI G, 3000, .inl (fun _ => 0)))] := hD
  refine lv_aload_n hx hb d_Tape_init_23 rfl (lv_at hl 0 rfl) ?_
  refine lv_iconst (v := 0) hx hb d_Tape_init_24 (by decide) ?_
  refine va_put (D := G.1) (ci := 2) (v := .int 0) (ty := .int) (C := R_Tape) (T := F_Tape) (N := 4) hx hb hts i_Tape t_Tape t_Tape_ok n_Tape hown hK hP hD hS 0 rfl rfl 3 (by decide) (hts (.fieldLink R_Tape 20 "PrivateQueries$Tape" "size" "I") k_6) (fun _ h9 => h9) rfl (by decide +kernel) rfl rfl (Nat.le_of_ble_eq_true rfl) d_Tape_init_25 (fun H locs hP hD hS => ?_)
  have hP : va_P G.1 classes [(h, .inr (2, [.int x, .int z, .ref q1_, .int 0])), (q1_, .inl (gI G, 3000, .inl (fun _ => 0)))] H := hP
  have hD : va_D A [(h, .inr (2, [.int x, .int z, .ref q1_, .int 0])), (q1_, .inl (gI G, 3000, .inl (fun _ => 0)))] := hD
  exact ly_vretN (fun k => [q1_].getD k 0) (fun k => [].getD k (fun _ => 0)) hx hb hr hlocks hP hD hS d_Tape_init_28 rfl

set_option maxHeartbeats 8000000 in
set_option maxRecDepth 100000 in
theorem c_Pur_init (l : Launch) (G : GG) (h : Nat) : DetN l G y_Pur_init w_Pur_init (rmN 1 2 10) 2 10 [.ref h] [(h, .inr (3, [.null, .null]))] (fun f g => [(h, .inr (3, [.ref (f 0), .ref (f 1)])), (f 0, .inl (gI G, 5, .inl (fun _ => 0))), (f 1, .inl (gI G, 5, .inl (fun _ => 0)))]) := by
  refine DetN.of (cc := b_Pur_init) (maxL := 1) (ret := none) (by decide) rfl (Nat.le_of_ble_eq_true rfl) ?_
  intro p e s m args below meth c A ls hx hb hr hml hown hts hlocks hin hA hK hZ hO hP hD hS hl
  have hts : ∀ w ∈ wG, w.before args s = true := fun w h => hts w (List.mem_cons_of_mem _ h)
  have hown : s.vm.findClass R_Pur = some m.cls := hown
  have hl : lv_has ls 1 [(0, .ref h)] := hl
  refine lv_aload_n hx hb d_Pur_init_0 rfl (lv_at hl 0 rfl) ?_
  refine W.objInit hx hb hown (hts (.methodLink R_Pur 1 objectInit) k_818) (hts (.instanceMethod objectInit) k_814) (hts (.code objectInit ⟨#[0xb1]⟩ 1 none) k_815) rfl (by rw [hml]; exact hl.1) rfl d_Pur_init_1 (Nat.le_of_ble_eq_true rfl) (Nat.le_of_ble_eq_true rfl) ?_
  refine W.eq (g2 := F0 m 4 ls []) rfl ?_
  refine lv_aload_n hx hb d_Pur_init_4 rfl (lv_at hl 0 rfl) ?_
  refine lv_iconst (v := 5) hx hb d_Pur_init_5 (by decide) ?_
  refine ly_newI hx hb (hts (.arrayClass .int) k_816) hK hP hD hS hA 5 (by decide) (by decide) (by decide) (Nat.le_of_ble_eq_true rfl) (Nat.le_of_ble_eq_true rfl) d_Pur_init_6 (fun q1_ H hP hD hS => ?_)
  have hP : va_P G.1 classes [(h, .inr (3, [.null, .null])), (q1_, .inl (gI G, 5, .inl (fun _ => 0)))] H := hP
  have hD : va_D A [(h, .inr (3, [.null, .null])), (q1_, .inl (gI G, 5, .inl (fun _ => 0)))] := hD
  refine va_putF (D := G.1) (ci := 3) (v := .ref q1_) (ty := (.array .int)) (C := R_Pur) (T := F_Pur) (N := 2) hx hb hts i_Pur t_Pur t_Pur_ok n_Pur hown hK hP hD hS 0 rfl rfl 0 (by decide) (hts (.fieldLink R_Pur 9 "PrivateQueries$Purses" "granted" "[I") k_20) (fun _ h9 => h9) rfl hin rfl (by decide +kernel) rfl rfl (Nat.le_of_ble_eq_true rfl) d_Pur_init_8 (fun H locs hP hD hS => ?_)
  have hP : va_P G.1 classes [(h, .inr (3, [.ref q1_, .null])), (q1_, .inl (gI G, 5, .inl (fun _ => 0)))] H := hP
  have hD : va_D A [(h, .inr (3, [.ref q1_, .null])), (q1_, .inl (gI G, 5, .inl (fun _ => 0)))] := hD
  refine lv_aload_n hx hb d_Pur_init_11 rfl (lv_at hl 0 rfl) ?_
  refine lv_iconst (v := 5) hx hb d_Pur_init_12 (by decide) ?_
  refine ly_newI hx hb (hts (.arrayClass .int) k_816) hK hP hD hS hA 5 (by decide) (by decide) (by decide) (Nat.le_of_ble_eq_true rfl) (Nat.le_of_ble_eq_true rfl) d_Pur_init_13 (fun q2_ H hP hD hS => ?_)
  have hP : va_P G.1 classes [(h, .inr (3, [.ref q1_, .null])), (q1_, .inl (gI G, 5, .inl (fun _ => 0))), (q2_, .inl (gI G, 5, .inl (fun _ => 0)))] H := hP
  have hD : va_D A [(h, .inr (3, [.ref q1_, .null])), (q1_, .inl (gI G, 5, .inl (fun _ => 0))), (q2_, .inl (gI G, 5, .inl (fun _ => 0)))] := hD
  refine va_putF (D := G.1) (ci := 3) (v := .ref q2_) (ty := (.array .int)) (C := R_Pur) (T := F_Pur) (N := 2) hx hb hts i_Pur t_Pur t_Pur_ok n_Pur hown hK hP hD hS 0 rfl rfl 1 (by decide) (hts (.fieldLink R_Pur 13 "PrivateQueries$Purses" "spent" "[I") k_21) (fun _ h9 => h9) rfl hin rfl (by decide +kernel) rfl rfl (Nat.le_of_ble_eq_true rfl) d_Pur_init_15 (fun H locs hP hD hS => ?_)
  have hP : va_P G.1 classes [(h, .inr (3, [.ref q1_, .ref q2_])), (q1_, .inl (gI G, 5, .inl (fun _ => 0))), (q2_, .inl (gI G, 5, .inl (fun _ => 0)))] H := hP
  have hD : va_D A [(h, .inr (3, [.ref q1_, .ref q2_])), (q1_, .inl (gI G, 5, .inl (fun _ => 0))), (q2_, .inl (gI G, 5, .inl (fun _ => 0)))] := hD
  exact ly_vretN (fun k => [q1_, q2_].getD k 0) (fun k => [].getD k (fun _ => 0)) hx hb hr hlocks hP hD hS d_Pur_init_18 rfl

set_option maxHeartbeats 8000000 in
set_option maxRecDepth 100000 in
theorem c_Text_init (l : Launch) (G : GG) (h : Nat) : DetN l G y_Text_init w_Text_init (rmN 1 1 2000) 1 2000 [.ref h] [(h, .inr (4, [.null, .int 0]))] (fun f g => [(h, .inr (4, [.ref (f 0), .int 0])), (f 0, .inl (gC G, 2000, .inl (fun _ => 0)))]) := by
  refine DetN.of (cc := b_Text_init) (maxL := 1) (ret := none) (by decide) rfl (Nat.le_of_ble_eq_true rfl) ?_
  intro p e s m args below meth c A ls hx hb hr hml hown hts hlocks hin hA hK hZ hO hP hD hS hl
  have hts : ∀ w ∈ wG, w.before args s = true := fun w h => hts w (List.mem_cons_of_mem _ h)
  have hown : s.vm.findClass R_Text = some m.cls := hown
  have hl : lv_has ls 1 [(0, .ref h)] := hl
  refine lv_aload_n hx hb d_Text_init_0 rfl (lv_at hl 0 rfl) ?_
  refine W.objInit hx hb hown (hts (.methodLink R_Text 1 objectInit) k_819) (hts (.instanceMethod objectInit) k_814) (hts (.code objectInit ⟨#[0xb1]⟩ 1 none) k_815) rfl (by rw [hml]; exact hl.1) rfl d_Text_init_1 (Nat.le_of_ble_eq_true rfl) (Nat.le_of_ble_eq_true rfl) ?_
  refine W.eq (g2 := F0 m 4 ls []) rfl ?_
  refine lv_aload_n hx hb d_Text_init_4 rfl (lv_at hl 0 rfl) ?_
  refine lv_sipush (v := 2000) hx hb d_Text_init_5 (by decide) ?_
  refine ly_newC hx hb (hts (.arrayClass .char) k_820) hK hP hD hS hA 2000 (by decide) (by decide) (by decide) (Nat.le_of_ble_eq_true rfl) (Nat.le_of_ble_eq_true rfl) d_Text_init_8 (fun q1_ H hP hD hS => ?_)
  have hP : va_P G.1 classes [(h, .inr (4, [.null, .int 0])), (q1_, .inl (gC G, 2000, .inl (fun _ => 0)))] H := hP
  have hD : va_D A [(h, .inr (4, [.null, .int 0])), (q1_, .inl (gC G, 2000, .inl (fun _ => 0)))] := hD
  refine va_putF (D := G.1) (ci := 4) (v := .ref q1_) (ty := (.array .char)) (C := R_Text) (T := F_Text) (N := 2) hx hb hts i_Text t_Text t_Text_ok n_Text hown hK hP hD hS 0 rfl rfl 0 (by decide) (hts (.fieldLink R_Text 9 "PrivateQueries$Text" "signs" "[C") k_31) (fun _ h9 => h9) rfl hin rfl (by decide +kernel) rfl rfl (Nat.le_of_ble_eq_true rfl) d_Text_init_10 (fun H locs hP hD hS => ?_)
  have hP : va_P G.1 classes [(h, .inr (4, [.ref q1_, .int 0])), (q1_, .inl (gC G, 2000, .inl (fun _ => 0)))] H := hP
  have hD : va_D A [(h, .inr (4, [.ref q1_, .int 0])), (q1_, .inl (gC G, 2000, .inl (fun _ => 0)))] := hD
  refine lv_aload_n hx hb d_Text_init_13 rfl (lv_at hl 0 rfl) ?_
  refine lv_iconst (v := 0) hx hb d_Text_init_14 (by decide) ?_
  refine va_put (D := G.1) (ci := 4) (v := .int 0) (ty := .int) (C := R_Text) (T := F_Text) (N := 2) hx hb hts i_Text t_Text t_Text_ok n_Text hown hK hP hD hS 0 rfl rfl 1 (by decide) (hts (.fieldLink R_Text 13 "PrivateQueries$Text" "size" "I") k_30) (fun _ h9 => h9) rfl (by decide +kernel) rfl rfl (Nat.le_of_ble_eq_true rfl) d_Text_init_15 (fun H locs hP hD hS => ?_)
  have hP : va_P G.1 classes [(h, .inr (4, [.ref q1_, .int 0])), (q1_, .inl (gC G, 2000, .inl (fun _ => 0)))] H := hP
  have hD : va_D A [(h, .inr (4, [.ref q1_, .int 0])), (q1_, .inl (gC G, 2000, .inl (fun _ => 0)))] := hD
  exact ly_vretN (fun k => [q1_].getD k 0) (fun k => [].getD k (fun _ => 0)) hx hb hr hlocks hP hD hS d_Text_init_18 rfl

set_option maxHeartbeats 8000000 in
set_option maxRecDepth 100000 in
theorem c_Out_init (l : Launch) (G : GG) (h : Nat) : DetN l G y_Out_init w_Out_init (rmN 1 1 4000) 1 4000 [.ref h] [(h, .inr (5, [.null, .int 0]))] (fun f g => [(h, .inr (5, [.ref (f 0), .int 0])), (f 0, .inl (gC G, 4000, .inl (fun _ => 0)))]) := by
  refine DetN.of (cc := b_Out_init) (maxL := 1) (ret := none) (by decide) rfl (Nat.le_of_ble_eq_true rfl) ?_
  intro p e s m args below meth c A ls hx hb hr hml hown hts hlocks hin hA hK hZ hO hP hD hS hl
  have hts : ∀ w ∈ wG, w.before args s = true := fun w h => hts w (List.mem_cons_of_mem _ h)
  have hown : s.vm.findClass R_Out = some m.cls := hown
  have hl : lv_has ls 1 [(0, .ref h)] := hl
  refine lv_aload_n hx hb d_Out_init_0 rfl (lv_at hl 0 rfl) ?_
  refine W.objInit hx hb hown (hts (.methodLink R_Out 5 objectInit) k_821) (hts (.instanceMethod objectInit) k_814) (hts (.code objectInit ⟨#[0xb1]⟩ 1 none) k_815) rfl (by rw [hml]; exact hl.1) rfl d_Out_init_1 (Nat.le_of_ble_eq_true rfl) (Nat.le_of_ble_eq_true rfl) ?_
  refine W.eq (g2 := F0 m 4 ls []) rfl ?_
  refine lv_aload_n hx hb d_Out_init_4 rfl (lv_at hl 0 rfl) ?_
  refine lv_sipush (v := 4000) hx hb d_Out_init_5 (by decide) ?_
  refine ly_newC hx hb (hts (.arrayClass .char) k_820) hK hP hD hS hA 4000 (by decide) (by decide) (by decide) (Nat.le_of_ble_eq_true rfl) (Nat.le_of_ble_eq_true rfl) d_Out_init_8 (fun q1_ H hP hD hS => ?_)
  have hP : va_P G.1 classes [(h, .inr (5, [.null, .int 0])), (q1_, .inl (gC G, 4000, .inl (fun _ => 0)))] H := hP
  have hD : va_D A [(h, .inr (5, [.null, .int 0])), (q1_, .inl (gC G, 4000, .inl (fun _ => 0)))] := hD
  refine va_putF (D := G.1) (ci := 5) (v := .ref q1_) (ty := (.array .char)) (C := R_Out) (T := F_Out) (N := 2) hx hb hts i_Out t_Out t_Out_ok n_Out hown hK hP hD hS 0 rfl rfl 0 (by decide) (hts (.fieldLink R_Out 13 "PrivateQueries$Out" "signs" "[C") k_41) (fun _ h9 => h9) rfl hin rfl (by decide +kernel) rfl rfl (Nat.le_of_ble_eq_true rfl) d_Out_init_10 (fun H locs hP hD hS => ?_)
  have hP : va_P G.1 classes [(h, .inr (5, [.ref q1_, .int 0])), (q1_, .inl (gC G, 4000, .inl (fun _ => 0)))] H := hP
  have hD : va_D A [(h, .inr (5, [.ref q1_, .int 0])), (q1_, .inl (gC G, 4000, .inl (fun _ => 0)))] := hD
  refine lv_aload_n hx hb d_Out_init_13 rfl (lv_at hl 0 rfl) ?_
  refine lv_iconst (v := 0) hx hb d_Out_init_14 (by decide) ?_
  refine va_put (D := G.1) (ci := 5) (v := .int 0) (ty := .int) (C := R_Out) (T := F_Out) (N := 2) hx hb hts i_Out t_Out t_Out_ok n_Out hown hK hP hD hS 0 rfl rfl 1 (by decide) (hts (.fieldLink R_Out 17 "PrivateQueries$Out" "size" "I") k_40) (fun _ h9 => h9) rfl (by decide +kernel) rfl rfl (Nat.le_of_ble_eq_true rfl) d_Out_init_15 (fun H locs hP hD hS => ?_)
  have hP : va_P G.1 classes [(h, .inr (5, [.ref q1_, .int 0])), (q1_, .inl (gC G, 4000, .inl (fun _ => 0)))] H := hP
  have hD : va_D A [(h, .inr (5, [.ref q1_, .int 0])), (q1_, .inl (gC G, 4000, .inl (fun _ => 0)))] := hD
  exact ly_vretN (fun k => [q1_].getD k 0) (fun k => [].getD k (fun _ => 0)) hx hb hr hlocks hP hD hS d_Out_init_18 rfl

set_option maxHeartbeats 8000000 in
set_option maxRecDepth 100000 in
theorem c_Prod_init (l : Launch) (G : GG) (h : Nat) : DetN l G y_Prod_init w_Prod_init (rmN 1 1 96) 1 96 [.ref h] [(h, .inr (6, [.null, .int 0]))] (fun f g => [(h, .inr (6, [.ref (f 0), .int 0])), (f 0, .inl (gI G, 96, .inl (fun _ => 0)))]) := by
  refine DetN.of (cc := b_Prod_init) (maxL := 1) (ret := none) (by decide) rfl (Nat.le_of_ble_eq_true rfl) ?_
  intro p e s m args below meth c A ls hx hb hr hml hown hts hlocks hin hA hK hZ hO hP hD hS hl
  have hts : ∀ w ∈ wG, w.before args s = true := fun w h => hts w (List.mem_cons_of_mem _ h)
  have hown : s.vm.findClass R_Prod = some m.cls := hown
  have hl : lv_has ls 1 [(0, .ref h)] := hl
  refine lv_aload_n hx hb d_Prod_init_0 rfl (lv_at hl 0 rfl) ?_
  refine W.objInit hx hb hown (hts (.methodLink R_Prod 1 objectInit) k_822) (hts (.instanceMethod objectInit) k_814) (hts (.code objectInit ⟨#[0xb1]⟩ 1 none) k_815) rfl (by rw [hml]; exact hl.1) rfl d_Prod_init_1 (Nat.le_of_ble_eq_true rfl) (Nat.le_of_ble_eq_true rfl) ?_
  refine W.eq (g2 := F0 m 4 ls []) rfl ?_
  refine lv_aload_n hx hb d_Prod_init_4 rfl (lv_at hl 0 rfl) ?_
  refine lv_bipush (v := 96) hx hb d_Prod_init_5 (by decide) ?_
  refine ly_newI hx hb (hts (.arrayClass .int) k_816) hK hP hD hS hA 96 (by decide) (by decide) (by decide) (Nat.le_of_ble_eq_true rfl) (Nat.le_of_ble_eq_true rfl) d_Prod_init_7 (fun q1_ H hP hD hS => ?_)
  have hP : va_P G.1 classes [(h, .inr (6, [.null, .int 0])), (q1_, .inl (gI G, 96, .inl (fun _ => 0)))] H := hP
  have hD : va_D A [(h, .inr (6, [.null, .int 0])), (q1_, .inl (gI G, 96, .inl (fun _ => 0)))] := hD
  refine va_putF (D := G.1) (ci := 6) (v := .ref q1_) (ty := (.array .int)) (C := R_Prod) (T := F_Prod) (N := 2) hx hb hts i_Prod t_Prod t_Prod_ok n_Prod hown hK hP hD hS 0 rfl rfl 0 (by decide) (hts (.fieldLink R_Prod 9 "PrivateQueries$Product" "digits" "[I") k_48) (fun _ h9 => h9) rfl hin rfl (by decide +kernel) rfl rfl (Nat.le_of_ble_eq_true rfl) d_Prod_init_9 (fun H locs hP hD hS => ?_)
  have hP : va_P G.1 classes [(h, .inr (6, [.ref q1_, .int 0])), (q1_, .inl (gI G, 96, .inl (fun _ => 0)))] H := hP
  have hD : va_D A [(h, .inr (6, [.ref q1_, .int 0])), (q1_, .inl (gI G, 96, .inl (fun _ => 0)))] := hD
  refine lv_aload_n hx hb d_Prod_init_12 rfl (lv_at hl 0 rfl) ?_
  refine lv_iconst (v := 0) hx hb d_Prod_init_13 (by decide) ?_
  refine va_put (D := G.1) (ci := 6) (v := .int 0) (ty := .int) (C := R_Prod) (T := F_Prod) (N := 2) hx hb hts i_Prod t_Prod t_Prod_ok n_Prod hown hK hP hD hS 0 rfl rfl 1 (by decide) (hts (.fieldLink R_Prod 13 "PrivateQueries$Product" "size" "I") k_49) (fun _ h9 => h9) rfl (by decide +kernel) rfl rfl (Nat.le_of_ble_eq_true rfl) d_Prod_init_14 (fun H locs hP hD hS => ?_)
  have hP : va_P G.1 classes [(h, .inr (6, [.ref q1_, .int 0])), (q1_, .inl (gI G, 96, .inl (fun _ => 0)))] H := hP
  have hD : va_D A [(h, .inr (6, [.ref q1_, .int 0])), (q1_, .inl (gI G, 96, .inl (fun _ => 0)))] := hD
  exact ly_vretN (fun k => [q1_].getD k 0) (fun k => [].getD k (fun _ => 0)) hx hb hr hlocks hP hD hS d_Prod_init_17 rfl

set_option maxHeartbeats 8000000 in
set_option maxRecDepth 100000 in
theorem c_Tok_init (l : Launch) (G : GG) (h : Nat) : DetN l G y_Tok_init w_Tok_init (rmN 1 3 6003) 3 6003 [.ref h] [(h, .inr (7, [.null, .null, .null, .int 0]))] (fun f g => [(h, .inr (7, [.ref (f 0), .ref (f 1), .ref (f 2), .int 0])), (f 0, .inl (gI G, 2001, .inl (fun _ => 0))), (f 1, .inl (gI G, 2001, .inl (fun _ => 0))), (f 2, .inl (gI G, 2001, .inl (fun _ => 0)))]) := by
  refine DetN.of (cc := b_Tok_init) (maxL := 1) (ret := none) (by decide) rfl (Nat.le_of_ble_eq_true rfl) ?_
  intro p e s m args below meth c A ls hx hb hr hml hown hts hlocks hin hA hK hZ hO hP hD hS hl
  have hts : ∀ w ∈ wG, w.before args s = true := fun w h => hts w (List.mem_cons_of_mem _ h)
  have hown : s.vm.findClass R_Tok = some m.cls := hown
  have hl : lv_has ls 1 [(0, .ref h)] := hl
  refine lv_aload_n hx hb d_Tok_init_0 rfl (lv_at hl 0 rfl) ?_
  refine W.objInit hx hb hown (hts (.methodLink R_Tok 1 objectInit) k_823) (hts (.instanceMethod objectInit) k_814) (hts (.code objectInit ⟨#[0xb1]⟩ 1 none) k_815) rfl (by rw [hml]; exact hl.1) rfl d_Tok_init_1 (Nat.le_of_ble_eq_true rfl) (Nat.le_of_ble_eq_true rfl) ?_
  refine W.eq (g2 := F0 m 4 ls []) rfl ?_
  refine lv_aload_n hx hb d_Tok_init_4 rfl (lv_at hl 0 rfl) ?_
  refine lv_sipush (v := 2001) hx hb d_Tok_init_5 (by decide) ?_
  refine ly_newI hx hb (hts (.arrayClass .int) k_816) hK hP hD hS hA 2001 (by decide) (by decide) (by decide) (Nat.le_of_ble_eq_true rfl) (Nat.le_of_ble_eq_true rfl) d_Tok_init_8 (fun q1_ H hP hD hS => ?_)
  have hP : va_P G.1 classes [(h, .inr (7, [.null, .null, .null, .int 0])), (q1_, .inl (gI G, 2001, .inl (fun _ => 0)))] H := hP
  have hD : va_D A [(h, .inr (7, [.null, .null, .null, .int 0])), (q1_, .inl (gI G, 2001, .inl (fun _ => 0)))] := hD
  refine va_putF (D := G.1) (ci := 7) (v := .ref q1_) (ty := (.array .int)) (C := R_Tok) (T := F_Tok) (N := 4) hx hb hts i_Tok t_Tok t_Tok_ok n_Tok hown hK hP hD hS 0 rfl rfl 0 (by decide) (hts (.fieldLink R_Tok 9 "PrivateQueries$Tokens" "kinds" "[I") k_63) (fun _ h9 => h9) rfl hin rfl (by decide +kernel) rfl rfl (Nat.le_of_ble_eq_true rfl) d_Tok_init_10 (fun H locs hP hD hS => ?_)
  have hP : va_P G.1 classes [(h, .inr (7, [.ref q1_, .null, .null, .int 0])), (q1_, .inl (gI G, 2001, .inl (fun _ => 0)))] H := hP
  have hD : va_D A [(h, .inr (7, [.ref q1_, .null, .null, .int 0])), (q1_, .inl (gI G, 2001, .inl (fun _ => 0)))] := hD
  refine lv_aload_n hx hb d_Tok_init_13 rfl (lv_at hl 0 rfl) ?_
  refine lv_sipush (v := 2001) hx hb d_Tok_init_14 (by decide) ?_
  refine ly_newI hx hb (hts (.arrayClass .int) k_816) hK hP hD hS hA 2001 (by decide) (by decide) (by decide) (Nat.le_of_ble_eq_true rfl) (Nat.le_of_ble_eq_true rfl) d_Tok_init_17 (fun q2_ H hP hD hS => ?_)
  have hP : va_P G.1 classes [(h, .inr (7, [.ref q1_, .null, .null, .int 0])), (q1_, .inl (gI G, 2001, .inl (fun _ => 0))), (q2_, .inl (gI G, 2001, .inl (fun _ => 0)))] H := hP
  have hD : va_D A [(h, .inr (7, [.ref q1_, .null, .null, .int 0])), (q1_, .inl (gI G, 2001, .inl (fun _ => 0))), (q2_, .inl (gI G, 2001, .inl (fun _ => 0)))] := hD
  refine va_putF (D := G.1) (ci := 7) (v := .ref q2_) (ty := (.array .int)) (C := R_Tok) (T := F_Tok) (N := 4) hx hb hts i_Tok t_Tok t_Tok_ok n_Tok hown hK hP hD hS 0 rfl rfl 1 (by decide) (hts (.fieldLink R_Tok 15 "PrivateQueries$Tokens" "values" "[I") k_64) (fun _ h9 => h9) rfl hin rfl (by decide +kernel) rfl rfl (Nat.le_of_ble_eq_true rfl) d_Tok_init_19 (fun H locs hP hD hS => ?_)
  have hP : va_P G.1 classes [(h, .inr (7, [.ref q1_, .ref q2_, .null, .int 0])), (q1_, .inl (gI G, 2001, .inl (fun _ => 0))), (q2_, .inl (gI G, 2001, .inl (fun _ => 0)))] H := hP
  have hD : va_D A [(h, .inr (7, [.ref q1_, .ref q2_, .null, .int 0])), (q1_, .inl (gI G, 2001, .inl (fun _ => 0))), (q2_, .inl (gI G, 2001, .inl (fun _ => 0)))] := hD
  refine lv_aload_n hx hb d_Tok_init_22 rfl (lv_at hl 0 rfl) ?_
  refine lv_sipush (v := 2001) hx hb d_Tok_init_23 (by decide) ?_
  refine ly_newI hx hb (hts (.arrayClass .int) k_816) hK hP hD hS hA 2001 (by decide) (by decide) (by decide) (Nat.le_of_ble_eq_true rfl) (Nat.le_of_ble_eq_true rfl) d_Tok_init_26 (fun q3_ H hP hD hS => ?_)
  have hP : va_P G.1 classes [(h, .inr (7, [.ref q1_, .ref q2_, .null, .int 0])), (q1_, .inl (gI G, 2001, .inl (fun _ => 0))), (q2_, .inl (gI G, 2001, .inl (fun _ => 0))), (q3_, .inl (gI G, 2001, .inl (fun _ => 0)))] H := hP
  have hD : va_D A [(h, .inr (7, [.ref q1_, .ref q2_, .null, .int 0])), (q1_, .inl (gI G, 2001, .inl (fun _ => 0))), (q2_, .inl (gI G, 2001, .inl (fun _ => 0))), (q3_, .inl (gI G, 2001, .inl (fun _ => 0)))] := hD
  refine va_putF (D := G.1) (ci := 7) (v := .ref q3_) (ty := (.array .int)) (C := R_Tok) (T := F_Tok) (N := 4) hx hb hts i_Tok t_Tok t_Tok_ok n_Tok hown hK hP hD hS 0 rfl rfl 2 (by decide) (hts (.fieldLink R_Tok 18 "PrivateQueries$Tokens" "places" "[I") k_66) (fun _ h9 => h9) rfl hin rfl (by decide +kernel) rfl rfl (Nat.le_of_ble_eq_true rfl) d_Tok_init_28 (fun H locs hP hD hS => ?_)
  have hP : va_P G.1 classes [(h, .inr (7, [.ref q1_, .ref q2_, .ref q3_, .int 0])), (q1_, .inl (gI G, 2001, .inl (fun _ => 0))), (q2_, .inl (gI G, 2001, .inl (fun _ => 0))), (q3_, .inl (gI G, 2001, .inl (fun _ => 0)))] H := hP
  have hD : va_D A [(h, .inr (7, [.ref q1_, .ref q2_, .ref q3_, .int 0])), (q1_, .inl (gI G, 2001, .inl (fun _ => 0))), (q2_, .inl (gI G, 2001, .inl (fun _ => 0))), (q3_, .inl (gI G, 2001, .inl (fun _ => 0)))] := hD
  refine lv_aload_n hx hb d_Tok_init_31 rfl (lv_at hl 0 rfl) ?_
  refine lv_iconst (v := 0) hx hb d_Tok_init_32 (by decide) ?_
  refine va_put (D := G.1) (ci := 7) (v := .int 0) (ty := .int) (C := R_Tok) (T := F_Tok) (N := 4) hx hb hts i_Tok t_Tok t_Tok_ok n_Tok hown hK hP hD hS 0 rfl rfl 3 (by decide) (hts (.fieldLink R_Tok 21 "PrivateQueries$Tokens" "size" "I") k_65) (fun _ h9 => h9) rfl (by decide +kernel) rfl rfl (Nat.le_of_ble_eq_true rfl) d_Tok_init_33 (fun H locs hP hD hS => ?_)
  have hP : va_P G.1 classes [(h, .inr (7, [.ref q1_, .ref q2_, .ref q3_, .int 0])), (q1_, .inl (gI G, 2001, .inl (fun _ => 0))), (q2_, .inl (gI G, 2001, .inl (fun _ => 0))), (q3_, .inl (gI G, 2001, .inl (fun _ => 0)))] H := hP
  have hD : va_D A [(h, .inr (7, [.ref q1_, .ref q2_, .ref q3_, .int 0])), (q1_, .inl (gI G, 2001, .inl (fun _ => 0))), (q2_, .inl (gI G, 2001, .inl (fun _ => 0))), (q3_, .inl (gI G, 2001, .inl (fun _ => 0)))] := hD
  exact ly_vretN (fun k => [q1_, q2_, q3_].getD k 0) (fun k => [].getD k (fun _ => 0)) hx hb hr hlocks hP hD hS d_Tok_init_36 rfl

set_option maxHeartbeats 8000000 in
set_option maxRecDepth 100000 in
theorem c_Cond_init (l : Launch) (G : GG) (h : Nat) : DetN l G y_Cond_init w_Cond_init (rmN 1 4 4074) 4 4074 [.ref h] [(h, .inr (8, [.null, .null, .int 0, .null, .int 0, .null]))] (fun f g => [(h, .inr (8, [.ref (f 0), .ref (f 1), .int 0, .ref (f 2), .int 0, .ref (f 3)])), (f 0, .inl (gI G, 2000, .inl (fun _ => 0))), (f 1, .inl (gI G, 2000, .inl (fun _ => 0))), (f 2, .inl (gI G, 64, .inl (fun _ => 0))), (f 3, .inl (gZ G, 10, .inl (fun _ => 0)))]) := by
  refine DetN.of (cc := b_Cond_init) (maxL := 1) (ret := none) (by decide) rfl (Nat.le_of_ble_eq_true rfl) ?_
  intro p e s m args below meth c A ls hx hb hr hml hown hts hlocks hin hA hK hZ hO hP hD hS hl
  have hts : ∀ w ∈ wG, w.before args s = true := fun w h => hts w (List.mem_cons_of_mem _ h)
  have hown : s.vm.findClass R_Cond = some m.cls := hown
  have hl : lv_has ls 1 [(0, .ref h)] := hl
  refine lv_aload_n hx hb d_Cond_init_0 rfl (lv_at hl 0 rfl) ?_
  refine W.objInit hx hb hown (hts (.methodLink R_Cond 3 objectInit) k_824) (hts (.instanceMethod objectInit) k_814) (hts (.code objectInit ⟨#[0xb1]⟩ 1 none) k_815) rfl (by rw [hml]; exact hl.1) rfl d_Cond_init_1 (Nat.le_of_ble_eq_true rfl) (Nat.le_of_ble_eq_true rfl) ?_
  refine W.eq (g2 := F0 m 4 ls []) rfl ?_
  refine lv_aload_n hx hb d_Cond_init_4 rfl (lv_at hl 0 rfl) ?_
  refine lv_sipush (v := 2000) hx hb d_Cond_init_5 (by decide) ?_
  refine ly_newI hx hb (hts (.arrayClass .int) k_816) hK hP hD hS hA 2000 (by decide) (by decide) (by decide) (Nat.le_of_ble_eq_true rfl) (Nat.le_of_ble_eq_true rfl) d_Cond_init_8 (fun q1_ H hP hD hS => ?_)
  have hP : va_P G.1 classes [(h, .inr (8, [.null, .null, .int 0, .null, .int 0, .null])), (q1_, .inl (gI G, 2000, .inl (fun _ => 0)))] H := hP
  have hD : va_D A [(h, .inr (8, [.null, .null, .int 0, .null, .int 0, .null])), (q1_, .inl (gI G, 2000, .inl (fun _ => 0)))] := hD
  refine va_putF (D := G.1) (ci := 8) (v := .ref q1_) (ty := (.array .int)) (C := R_Cond) (T := F_Cond) (N := 6) hx hb hts i_Cond t_Cond t_Cond_ok n_Cond hown hK hP hD hS 0 rfl rfl 0 (by decide) (hts (.fieldLink R_Cond 11 "PrivateQueries$Conditions" "steps" "[I") k_77) (fun _ h9 => h9) rfl hin rfl (by decide +kernel) rfl rfl (Nat.le_of_ble_eq_true rfl) d_Cond_init_10 (fun H locs hP hD hS => ?_)
  have hP : va_P G.1 classes [(h, .inr (8, [.ref q1_, .null, .int 0, .null, .int 0, .null])), (q1_, .inl (gI G, 2000, .inl (fun _ => 0)))] H := hP
  have hD : va_D A [(h, .inr (8, [.ref q1_, .null, .int 0, .null, .int 0, .null])), (q1_, .inl (gI G, 2000, .inl (fun _ => 0)))] := hD
  refine lv_aload_n hx hb d_Cond_init_13 rfl (lv_at hl 0 rfl) ?_
  refine lv_sipush (v := 2000) hx hb d_Cond_init_14 (by decide) ?_
  refine ly_newI hx hb (hts (.arrayClass .int) k_816) hK hP hD hS hA 2000 (by decide) (by decide) (by decide) (Nat.le_of_ble_eq_true rfl) (Nat.le_of_ble_eq_true rfl) d_Cond_init_17 (fun q2_ H hP hD hS => ?_)
  have hP : va_P G.1 classes [(h, .inr (8, [.ref q1_, .null, .int 0, .null, .int 0, .null])), (q1_, .inl (gI G, 2000, .inl (fun _ => 0))), (q2_, .inl (gI G, 2000, .inl (fun _ => 0)))] H := hP
  have hD : va_D A [(h, .inr (8, [.ref q1_, .null, .int 0, .null, .int 0, .null])), (q1_, .inl (gI G, 2000, .inl (fun _ => 0))), (q2_, .inl (gI G, 2000, .inl (fun _ => 0)))] := hD
  refine va_putF (D := G.1) (ci := 8) (v := .ref q2_) (ty := (.array .int)) (C := R_Cond) (T := F_Cond) (N := 6) hx hb hts i_Cond t_Cond t_Cond_ok n_Cond hown hK hP hD hS 0 rfl rfl 1 (by decide) (hts (.fieldLink R_Cond 15 "PrivateQueries$Conditions" "values" "[I") k_78) (fun _ h9 => h9) rfl hin rfl (by decide +kernel) rfl rfl (Nat.le_of_ble_eq_true rfl) d_Cond_init_19 (fun H locs hP hD hS => ?_)
  have hP : va_P G.1 classes [(h, .inr (8, [.ref q1_, .ref q2_, .int 0, .null, .int 0, .null])), (q1_, .inl (gI G, 2000, .inl (fun _ => 0))), (q2_, .inl (gI G, 2000, .inl (fun _ => 0)))] H := hP
  have hD : va_D A [(h, .inr (8, [.ref q1_, .ref q2_, .int 0, .null, .int 0, .null])), (q1_, .inl (gI G, 2000, .inl (fun _ => 0))), (q2_, .inl (gI G, 2000, .inl (fun _ => 0)))] := hD
  refine lv_aload_n hx hb d_Cond_init_22 rfl (lv_at hl 0 rfl) ?_
  refine lv_iconst (v := 0) hx hb d_Cond_init_23 (by decide) ?_
  refine va_put (D := G.1) (ci := 8) (v := .int 0) (ty := .int) (C := R_Cond) (T := F_Cond) (N := 6) hx hb hts i_Cond t_Cond t_Cond_ok n_Cond hown hK hP hD hS 0 rfl rfl 2 (by decide) (hts (.fieldLink R_Cond 18 "PrivateQueries$Conditions" "size" "I") k_76) (fun _ h9 => h9) rfl (by decide +kernel) rfl rfl (Nat.le_of_ble_eq_true rfl) d_Cond_init_24 (fun H locs hP hD hS => ?_)
  have hP : va_P G.1 classes [(h, .inr (8, [.ref q1_, .ref q2_, .int 0, .null, .int 0, .null])), (q1_, .inl (gI G, 2000, .inl (fun _ => 0))), (q2_, .inl (gI G, 2000, .inl (fun _ => 0)))] H := hP
  have hD : va_D A [(h, .inr (8, [.ref q1_, .ref q2_, .int 0, .null, .int 0, .null])), (q1_, .inl (gI G, 2000, .inl (fun _ => 0))), (q2_, .inl (gI G, 2000, .inl (fun _ => 0)))] := hD
  refine lv_aload_n hx hb d_Cond_init_27 rfl (lv_at hl 0 rfl) ?_
  refine lv_bipush (v := 64) hx hb d_Cond_init_28 (by decide) ?_
  refine ly_newI hx hb (hts (.arrayClass .int) k_816) hK hP hD hS hA 64 (by decide) (by decide) (by decide) (Nat.le_of_ble_eq_true rfl) (Nat.le_of_ble_eq_true rfl) d_Cond_init_30 (fun q3_ H hP hD hS => ?_)
  have hP : va_P G.1 classes [(h, .inr (8, [.ref q1_, .ref q2_, .int 0, .null, .int 0, .null])), (q1_, .inl (gI G, 2000, .inl (fun _ => 0))), (q2_, .inl (gI G, 2000, .inl (fun _ => 0))), (q3_, .inl (gI G, 64, .inl (fun _ => 0)))] H := hP
  have hD : va_D A [(h, .inr (8, [.ref q1_, .ref q2_, .int 0, .null, .int 0, .null])), (q1_, .inl (gI G, 2000, .inl (fun _ => 0))), (q2_, .inl (gI G, 2000, .inl (fun _ => 0))), (q3_, .inl (gI G, 64, .inl (fun _ => 0)))] := hD
  refine va_putF (D := G.1) (ci := 8) (v := .ref q3_) (ty := (.array .int)) (C := R_Cond) (T := F_Cond) (N := 6) hx hb hts i_Cond t_Cond t_Cond_ok n_Cond hown hK hP hD hS 0 rfl rfl 3 (by decide) (hts (.fieldLink R_Cond 22 "PrivateQueries$Conditions" "stack" "[I") k_81) (fun _ h9 => h9) rfl hin rfl (by decide +kernel) rfl rfl (Nat.le_of_ble_eq_true rfl) d_Cond_init_32 (fun H locs hP hD hS => ?_)
  have hP : va_P G.1 classes [(h, .inr (8, [.ref q1_, .ref q2_, .int 0, .ref q3_, .int 0, .null])), (q1_, .inl (gI G, 2000, .inl (fun _ => 0))), (q2_, .inl (gI G, 2000, .inl (fun _ => 0))), (q3_, .inl (gI G, 64, .inl (fun _ => 0)))] H := hP
  have hD : va_D A [(h, .inr (8, [.ref q1_, .ref q2_, .int 0, .ref q3_, .int 0, .null])), (q1_, .inl (gI G, 2000, .inl (fun _ => 0))), (q2_, .inl (gI G, 2000, .inl (fun _ => 0))), (q3_, .inl (gI G, 64, .inl (fun _ => 0)))] := hD
  refine lv_aload_n hx hb d_Cond_init_35 rfl (lv_at hl 0 rfl) ?_
  refine lv_iconst (v := 0) hx hb d_Cond_init_36 (by decide) ?_
  refine va_put (D := G.1) (ci := 8) (v := .int 0) (ty := .int) (C := R_Cond) (T := F_Cond) (N := 6) hx hb hts i_Cond t_Cond t_Cond_ok n_Cond hown hK hP hD hS 0 rfl rfl 4 (by decide) (hts (.fieldLink R_Cond 25 "PrivateQueries$Conditions" "height" "I") k_80) (fun _ h9 => h9) rfl (by decide +kernel) rfl rfl (Nat.le_of_ble_eq_true rfl) d_Cond_init_37 (fun H locs hP hD hS => ?_)
  have hP : va_P G.1 classes [(h, .inr (8, [.ref q1_, .ref q2_, .int 0, .ref q3_, .int 0, .null])), (q1_, .inl (gI G, 2000, .inl (fun _ => 0))), (q2_, .inl (gI G, 2000, .inl (fun _ => 0))), (q3_, .inl (gI G, 64, .inl (fun _ => 0)))] H := hP
  have hD : va_D A [(h, .inr (8, [.ref q1_, .ref q2_, .int 0, .ref q3_, .int 0, .null])), (q1_, .inl (gI G, 2000, .inl (fun _ => 0))), (q2_, .inl (gI G, 2000, .inl (fun _ => 0))), (q3_, .inl (gI G, 64, .inl (fun _ => 0)))] := hD
  refine lv_aload_n hx hb d_Cond_init_40 rfl (lv_at hl 0 rfl) ?_
  refine lv_bipush (v := 10) hx hb d_Cond_init_41 (by decide) ?_
  refine ly_newZ hx hb (hts (.arrayClass .boolean) k_825) hK hP hD hS hA 10 (by decide) (by decide) (by decide) (Nat.le_of_ble_eq_true rfl) (Nat.le_of_ble_eq_true rfl) d_Cond_init_43 (fun q4_ H hP hD hS => ?_)
  have hP : va_P G.1 classes [(h, .inr (8, [.ref q1_, .ref q2_, .int 0, .ref q3_, .int 0, .null])), (q1_, .inl (gI G, 2000, .inl (fun _ => 0))), (q2_, .inl (gI G, 2000, .inl (fun _ => 0))), (q3_, .inl (gI G, 64, .inl (fun _ => 0))), (q4_, .inl (gZ G, 10, .inl (fun _ => 0)))] H := hP
  have hD : va_D A [(h, .inr (8, [.ref q1_, .ref q2_, .int 0, .ref q3_, .int 0, .null])), (q1_, .inl (gI G, 2000, .inl (fun _ => 0))), (q2_, .inl (gI G, 2000, .inl (fun _ => 0))), (q3_, .inl (gI G, 64, .inl (fun _ => 0))), (q4_, .inl (gZ G, 10, .inl (fun _ => 0)))] := hD
  refine va_putF (D := G.1) (ci := 8) (v := .ref q4_) (ty := (.array .boolean)) (C := R_Cond) (T := F_Cond) (N := 6) hx hb hts i_Cond t_Cond t_Cond_ok n_Cond hown hK hP hD hS 0 rfl rfl 5 (by decide) (hts (.fieldLink R_Cond 30 "PrivateQueries$Conditions" "holding" "[Z") k_79) (fun _ h9 => h9) rfl hin rfl (by decide +kernel) rfl rfl (Nat.le_of_ble_eq_true rfl) d_Cond_init_45 (fun H locs hP hD hS => ?_)
  have hP : va_P G.1 classes [(h, .inr (8, [.ref q1_, .ref q2_, .int 0, .ref q3_, .int 0, .ref q4_])), (q1_, .inl (gI G, 2000, .inl (fun _ => 0))), (q2_, .inl (gI G, 2000, .inl (fun _ => 0))), (q3_, .inl (gI G, 64, .inl (fun _ => 0))), (q4_, .inl (gZ G, 10, .inl (fun _ => 0)))] H := hP
  have hD : va_D A [(h, .inr (8, [.ref q1_, .ref q2_, .int 0, .ref q3_, .int 0, .ref q4_])), (q1_, .inl (gI G, 2000, .inl (fun _ => 0))), (q2_, .inl (gI G, 2000, .inl (fun _ => 0))), (q3_, .inl (gI G, 64, .inl (fun _ => 0))), (q4_, .inl (gZ G, 10, .inl (fun _ => 0)))] := hD
  exact ly_vretN (fun k => [q1_, q2_, q3_, q4_].getD k 0) (fun k => [].getD k (fun _ => 0)) hx hb hr hlocks hP hD hS d_Cond_init_48 rfl

set_option maxHeartbeats 4000000 in
set_option maxRecDepth 100000 in
theorem c_Qu_init (l : Launch) (G : GG) (h : Nat) (v_sort : Int32) (v_column : Int32) (v_low : Int32) (v_high : Int32) (v_by : Int32) (v_top : Int32) (v_start : Int32) (v_end : Int32) : Det l G y_Qu_init w_Qu_init (rmD 1) 0 0 [.ref h] [(h, .inr (9, [.int v_sort, .int v_column, .int v_low, .int v_high, .int v_by, .int v_top, .int v_start, .int v_end]))] none [(h, .inr (9, [.int v_sort, .int v_column, .int v_low, .int v_high, .int 1, .int v_top, .int v_start, .int v_end]))] := by
  refine Det.of (cc := b_Qu_init) (maxL := 1) (ret := none) (by decide) rfl (Nat.le_of_ble_eq_true rfl) ?_
  intro p e s m args below meth c A ls hx hb hr hml hown hts hlocks hin hA hK hZ hP hD hS hl
  have hts : ∀ w ∈ wG, w.before args s = true := fun w h => hts w (List.mem_cons_of_mem _ h)
  have hown : s.vm.findClass R_Qu = some m.cls := hown
  have hl : lv_has ls 1 [(0, .ref h)] := hl
  refine lv_aload_n hx hb d_Qu_init_0 rfl (lv_at hl 0 rfl) ?_
  refine W.objInit hx hb hown (hts (.methodLink R_Qu 3 objectInit) k_826) (hts (.instanceMethod objectInit) k_814) (hts (.code objectInit ⟨#[0xb1]⟩ 1 none) k_815) rfl (by rw [hml]; exact hl.1) rfl d_Qu_init_1 (Nat.le_of_ble_eq_true rfl) (Nat.le_of_ble_eq_true rfl) ?_
  refine W.eq (g2 := F0 m 4 ls []) rfl ?_
  refine lv_aload_n hx hb d_Qu_init_4 rfl (lv_at hl 0 rfl) ?_
  refine lv_iconst (v := 1) hx hb d_Qu_init_5 (by decide) ?_
  refine va_put (D := G.1) (ci := 9) (v := .int 1) (ty := .int) (C := R_Qu) (T := F_Qu) (N := 8) hx hb hts i_Qu t_Qu t_Qu_ok n_Qu hown hK hP hD hS 0 rfl rfl 4 (by decide) (hts (.fieldLink R_Qu 9 "PrivateQueries$Question" "by" "I") k_111) (fun _ h9 => h9) rfl (by decide +kernel) rfl rfl (Nat.le_of_ble_eq_true rfl) d_Qu_init_6 (fun H locs hP hD hS => ?_)
  have hP : va_P G.1 classes [(h, .inr (9, [.int v_sort, .int v_column, .int v_low, .int v_high, .int 1, .int v_top, .int v_start, .int v_end]))] H := hP
  have hD : va_D A [(h, .inr (9, [.int v_sort, .int v_column, .int v_low, .int v_high, .int 1, .int v_top, .int v_start, .int v_end]))] := hD
  exact ly_vret hx hb hr hlocks hP hD hS d_Qu_init_9 rfl rfl

set_option maxHeartbeats 4000000 in
set_option maxRecDepth 100000 in
theorem c_Par_init (l : Launch) (G : GG) (h : Nat) (script_h : Nat) (script_tokens_h : Nat) (script_conditions_h : Nat) (script_a_questions : Nat) (script_a_letStarts : Nat) (script_a_letEnds : Nat) (script_a_letOfLetter : Nat) (script__asked : Int32) (script__lets : Int32) : Det l G y_Par_init w_Par_init (rmD 1) 0 0 [.ref h, .ref script_h] [(h, .inr (11, [.null, .null, .null, .int 0, .int 0])), (script_h, .inr (10, [.ref script_tokens_h, .ref script_conditions_h, .ref script_a_questions, .int script__asked, .ref script_a_letStarts, .ref script_a_letEnds, .ref script_a_letOfLetter, .int script__lets]))] none [(h, .inr (11, [.ref script_h, .ref script_tokens_h, .ref script_conditions_h, .int 0, .int 0])), (script_h, .inr (10, [.ref script_tokens_h, .ref script_conditions_h, .ref script_a_questions, .int script__asked, .ref script_a_letStarts, .ref script_a_letEnds, .ref script_a_letOfLetter, .int script__lets]))] := by
  refine Det.of (cc := b_Par_init) (maxL := 2) (ret := none) (by decide) rfl (Nat.le_of_ble_eq_true rfl) ?_
  intro p e s m args below meth c A ls hx hb hr hml hown hts hlocks hin hA hK hZ hP hD hS hl
  have hts : ∀ w ∈ wG, w.before args s = true := fun w h => hts w (List.mem_cons_of_mem _ h)
  have hown : s.vm.findClass R_Par = some m.cls := hown
  have hl : lv_has ls 2 [(0, .ref h), (1, .ref script_h)] := hl
  refine lv_aload_n hx hb d_Par_init_0 rfl (lv_at hl 0 rfl) ?_
  refine W.objInit hx hb hown (hts (.methodLink R_Par 3 objectInit) k_827) (hts (.instanceMethod objectInit) k_814) (hts (.code objectInit ⟨#[0xb1]⟩ 1 none) k_815) rfl (by rw [hml]; exact hl.1) rfl d_Par_init_1 (Nat.le_of_ble_eq_true rfl) (Nat.le_of_ble_eq_true rfl) ?_
  refine W.eq (g2 := F0 m 4 ls []) rfl ?_
  refine lv_aload_n hx hb d_Par_init_4 rfl (lv_at hl 0 rfl) ?_
  refine lv_aload_n hx hb d_Par_init_5 rfl (lv_at hl 1 rfl) ?_
  refine va_putF (D := G.1) (ci := 11) (v := .ref script_h) (ty := (.object "PrivateQueries$Script")) (C := R_Par) (T := F_Par) (N := 5) hx hb hts i_Par t_Par t_Par_ok n_Par hown hK hP hD hS 0 rfl rfl 0 (by decide) (hts (.fieldLink R_Par 9 "PrivateQueries$Parser" "script" "LPrivateQueries$Script;") k_776) (fun _ h9 => h9) rfl hin rfl (by decide +kernel) rfl rfl (Nat.le_of_ble_eq_true rfl) d_Par_init_6 (fun H locs hP hD hS => ?_)
  have hP : va_P G.1 classes [(h, .inr (11, [.ref script_h, .null, .null, .int 0, .int 0])), (script_h, .inr (10, [.ref script_tokens_h, .ref script_conditions_h, .ref script_a_questions, .int script__asked, .ref script_a_letStarts, .ref script_a_letEnds, .ref script_a_letOfLetter, .int script__lets]))] H := hP
  have hD : va_D A [(h, .inr (11, [.ref script_h, .null, .null, .int 0, .int 0])), (script_h, .inr (10, [.ref script_tokens_h, .ref script_conditions_h, .ref script_a_questions, .int script__asked, .ref script_a_letStarts, .ref script_a_letEnds, .ref script_a_letOfLetter, .int script__lets]))] := hD
  refine lv_aload_n hx hb d_Par_init_9 rfl (lv_at hl 0 rfl) ?_
  refine lv_aload_n hx hb d_Par_init_10 rfl (lv_at hl 1 rfl) ?_
  refine va_get (D := G.1) (ci := 10) (C := R_Scr) (T := F_Scr) (N := 8) (v := .ref script_tokens_h) hx hb hts i_Scr hown hK hP 1 rfl rfl 0 (by decide) (hts (.fieldLink R_Par 15 "PrivateQueries$Script" "tokens" "LPrivateQueries$Tokens;") k_828) (fun _ h9 => h9) rfl d_Par_init_11 ?_
  refine va_putF (D := G.1) (ci := 11) (v := .ref script_tokens_h) (ty := (.object "PrivateQueries$Tokens")) (C := R_Par) (T := F_Par) (N := 5) hx hb hts i_Par t_Par t_Par_ok n_Par hown hK hP hD hS 0 rfl rfl 1 (by decide) (hts (.fieldLink R_Par 21 "PrivateQueries$Parser" "tokens" "LPrivateQueries$Tokens;") k_130) (fun _ h9 => h9) rfl hin rfl (by decide +kernel) rfl rfl (Nat.le_of_ble_eq_true rfl) d_Par_init_14 (fun H locs hP hD hS => ?_)
  have hP : va_P G.1 classes [(h, .inr (11, [.ref script_h, .ref script_tokens_h, .null, .int 0, .int 0])), (script_h, .inr (10, [.ref script_tokens_h, .ref script_conditions_h, .ref script_a_questions, .int script__asked, .ref script_a_letStarts, .ref script_a_letEnds, .ref script_a_letOfLetter, .int script__lets]))] H := hP
  have hD : va_D A [(h, .inr (11, [.ref script_h, .ref script_tokens_h, .null, .int 0, .int 0])), (script_h, .inr (10, [.ref script_tokens_h, .ref script_conditions_h, .ref script_a_questions, .int script__asked, .ref script_a_letStarts, .ref script_a_letEnds, .ref script_a_letOfLetter, .int script__lets]))] := hD
  refine lv_aload_n hx hb d_Par_init_17 rfl (lv_at hl 0 rfl) ?_
  refine lv_aload_n hx hb d_Par_init_18 rfl (lv_at hl 1 rfl) ?_
  refine va_get (D := G.1) (ci := 10) (C := R_Scr) (T := F_Scr) (N := 8) (v := .ref script_conditions_h) hx hb hts i_Scr hown hK hP 1 rfl rfl 1 (by decide) (hts (.fieldLink R_Par 22 "PrivateQueries$Script" "conditions" "LPrivateQueries$Conditions;") k_829) (fun _ h9 => h9) rfl d_Par_init_19 ?_
  refine va_putF (D := G.1) (ci := 11) (v := .ref script_conditions_h) (ty := (.object "PrivateQueries$Conditions")) (C := R_Par) (T := F_Par) (N := 5) hx hb hts i_Par t_Par t_Par_ok n_Par hown hK hP hD hS 0 rfl rfl 2 (by decide) (hts (.fieldLink R_Par 26 "PrivateQueries$Parser" "conditions" "LPrivateQueries$Conditions;") k_755) (fun _ h9 => h9) rfl hin rfl (by decide +kernel) rfl rfl (Nat.le_of_ble_eq_true rfl) d_Par_init_22 (fun H locs hP hD hS => ?_)
  have hP : va_P G.1 classes [(h, .inr (11, [.ref script_h, .ref script_tokens_h, .ref script_conditions_h, .int 0, .int 0])), (script_h, .inr (10, [.ref script_tokens_h, .ref script_conditions_h, .ref script_a_questions, .int script__asked, .ref script_a_letStarts, .ref script_a_letEnds, .ref script_a_letOfLetter, .int script__lets]))] H := hP
  have hD : va_D A [(h, .inr (11, [.ref script_h, .ref script_tokens_h, .ref script_conditions_h, .int 0, .int 0])), (script_h, .inr (10, [.ref script_tokens_h, .ref script_conditions_h, .ref script_a_questions, .int script__asked, .ref script_a_letStarts, .ref script_a_letEnds, .ref script_a_letOfLetter, .int script__lets]))] := hD
  refine lv_aload_n hx hb d_Par_init_25 rfl (lv_at hl 0 rfl) ?_
  refine lv_iconst (v := 0) hx hb d_Par_init_26 (by decide) ?_
  refine va_put (D := G.1) (ci := 11) (v := .int 0) (ty := .int) (C := R_Par) (T := F_Par) (N := 5) hx hb hts i_Par t_Par t_Par_ok n_Par hown hK hP hD hS 0 rfl rfl 3 (by decide) (hts (.fieldLink R_Par 27 "PrivateQueries$Parser" "at" "I") k_129) (fun _ h9 => h9) rfl (by decide +kernel) rfl rfl (Nat.le_of_ble_eq_true rfl) d_Par_init_27 (fun H locs hP hD hS => ?_)
  have hP : va_P G.1 classes [(h, .inr (11, [.ref script_h, .ref script_tokens_h, .ref script_conditions_h, .int 0, .int 0])), (script_h, .inr (10, [.ref script_tokens_h, .ref script_conditions_h, .ref script_a_questions, .int script__asked, .ref script_a_letStarts, .ref script_a_letEnds, .ref script_a_letOfLetter, .int script__lets]))] H := hP
  have hD : va_D A [(h, .inr (11, [.ref script_h, .ref script_tokens_h, .ref script_conditions_h, .int 0, .int 0])), (script_h, .inr (10, [.ref script_tokens_h, .ref script_conditions_h, .ref script_a_questions, .int script__asked, .ref script_a_letStarts, .ref script_a_letEnds, .ref script_a_letOfLetter, .int script__lets]))] := hD
  refine lv_aload_n hx hb d_Par_init_30 rfl (lv_at hl 0 rfl) ?_
  refine lv_iconst (v := 0) hx hb d_Par_init_31 (by decide) ?_
  refine va_put (D := G.1) (ci := 11) (v := .int 0) (ty := .int) (C := R_Par) (T := F_Par) (N := 5) hx hb hts i_Par t_Par t_Par_ok n_Par hown hK hP hD hS 0 rfl rfl 4 (by decide) (hts (.fieldLink R_Par 31 "PrivateQueries$Parser" "joints" "I") k_133) (fun _ h9 => h9) rfl (by decide +kernel) rfl rfl (Nat.le_of_ble_eq_true rfl) d_Par_init_32 (fun H locs hP hD hS => ?_)
  have hP : va_P G.1 classes [(h, .inr (11, [.ref script_h, .ref script_tokens_h, .ref script_conditions_h, .int 0, .int 0])), (script_h, .inr (10, [.ref script_tokens_h, .ref script_conditions_h, .ref script_a_questions, .int script__asked, .ref script_a_letStarts, .ref script_a_letEnds, .ref script_a_letOfLetter, .int script__lets]))] H := hP
  have hD : va_D A [(h, .inr (11, [.ref script_h, .ref script_tokens_h, .ref script_conditions_h, .int 0, .int 0])), (script_h, .inr (10, [.ref script_tokens_h, .ref script_conditions_h, .ref script_a_questions, .int script__asked, .ref script_a_letStarts, .ref script_a_letEnds, .ref script_a_letOfLetter, .int script__lets]))] := hD
  exact ly_vret hx hb hr hlocks hP hD hS d_Par_init_35 rfl rfl
