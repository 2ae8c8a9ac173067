theorem d_Pur_isAsker_0 : decode b_Pur_isAsker 0 = .ok (.iload_n 0, 1) := by decide +kernel
theorem d_Pur_isAsker_1 : decode b_Pur_isAsker 1 = .ok (.ifCond .lt 12, 3) := by decide +kernel
theorem d_Pur_isAsker_4 : decode b_Pur_isAsker 4 = .ok (.iload_n 0, 1) := by decide +kernel
theorem d_Pur_isAsker_5 : decode b_Pur_isAsker 5 = .ok (.iconst 4, 1) := by decide +kernel
theorem d_Pur_isAsker_6 : decode b_Pur_isAsker 6 = .ok (.if_icmp .ge 7, 3) := by decide +kernel
theorem d_Pur_isAsker_9 : decode b_Pur_isAsker 9 = .ok (.iconst 1, 1) := by decide +kernel
theorem d_Pur_isAsker_10 : decode b_Pur_isAsker 10 = .ok (.goto 4, 3) := by decide +kernel
theorem d_Pur_isAsker_13 : decode b_Pur_isAsker 13 = .ok (.iconst 0, 1) := by decide +kernel
theorem d_Pur_isAsker_14 : decode b_Pur_isAsker 14 = .ok (.ireturn, 1) := by decide +kernel
theorem d_Pur_isKnown_0 : decode b_Pur_isKnown 0 = .ok (.iload_n 0, 1) := by decide +kernel
theorem d_Pur_isKnown_1 : decode b_Pur_isKnown 1 = .ok (.ifCond .lt 12, 3) := by decide +kernel
theorem d_Pur_isKnown_4 : decode b_Pur_isKnown 4 = .ok (.iload_n 0, 1) := by decide +kernel
theorem d_Pur_isKnown_5 : decode b_Pur_isKnown 5 = .ok (.iconst 4, 1) := by decide +kernel
theorem d_Pur_isKnown_6 : decode b_Pur_isKnown 6 = .ok (.if_icmp .gt 7, 3) := by decide +kernel
theorem d_Pur_isKnown_9 : decode b_Pur_isKnown 9 = .ok (.iconst 1, 1) := by decide +kernel
theorem d_Pur_isKnown_10 : decode b_Pur_isKnown 10 = .ok (.goto 4, 3) := by decide +kernel
theorem d_Pur_isKnown_13 : decode b_Pur_isKnown 13 = .ok (.iconst 0, 1) := by decide +kernel
theorem d_Pur_isKnown_14 : decode b_Pur_isKnown 14 = .ok (.ireturn, 1) := by decide +kernel
theorem d_Pur_grantedTo_0 : decode b_Pur_grantedTo 0 = .ok (.iload_n 1, 1) := by decide +kernel
theorem d_Pur_grantedTo_1 : decode b_Pur_grantedTo 1 = .ok (.invokestatic 16, 3) := by decide +kernel
theorem d_Pur_grantedTo_4 : decode b_Pur_grantedTo 4 = .ok (.ifCond .eq 12, 3) := by decide +kernel
theorem d_Pur_grantedTo_7 : decode b_Pur_grantedTo 7 = .ok (.aload_n 0, 1) := by decide +kernel
theorem d_Pur_grantedTo_8 : decode b_Pur_grantedTo 8 = .ok (.getfield 9, 3) := by decide +kernel
theorem d_Pur_grantedTo_11 : decode b_Pur_grantedTo 11 = .ok (.iload_n 1, 1) := by decide +kernel
theorem d_Pur_grantedTo_12 : decode b_Pur_grantedTo 12 = .ok (.iaload, 1) := by decide +kernel
theorem d_Pur_grantedTo_13 : decode b_Pur_grantedTo 13 = .ok (.goto 4, 3) := by decide +kernel
theorem d_Pur_grantedTo_16 : decode b_Pur_grantedTo 16 = .ok (.iconst 0, 1) := by decide +kernel
theorem d_Pur_grantedTo_17 : decode b_Pur_grantedTo 17 = .ok (.ireturn, 1) := by decide +kernel
theorem d_Pur_spentBy_0 : decode b_Pur_spentBy 0 = .ok (.iload_n 1, 1) := by decide +kernel
theorem d_Pur_spentBy_1 : decode b_Pur_spentBy 1 = .ok (.invokestatic 16, 3) := by decide +kernel
theorem d_Pur_spentBy_4 : decode b_Pur_spentBy 4 = .ok (.ifCond .eq 12, 3) := by decide +kernel
theorem d_Pur_spentBy_7 : decode b_Pur_spentBy 7 = .ok (.aload_n 0, 1) := by decide +kernel
theorem d_Pur_spentBy_8 : decode b_Pur_spentBy 8 = .ok (.getfield 13, 3) := by decide +kernel
theorem d_Pur_spentBy_11 : decode b_Pur_spentBy 11 = .ok (.iload_n 1, 1) := by decide +kernel
theorem d_Pur_spentBy_12 : decode b_Pur_spentBy 12 = .ok (.iaload, 1) := by decide +kernel
theorem d_Pur_spentBy_13 : decode b_Pur_spentBy 13 = .ok (.goto 4, 3) := by decide +kernel
theorem d_Pur_spentBy_16 : decode b_Pur_spentBy 16 = .ok (.iconst 0, 1) := by decide +kernel
theorem d_Pur_spentBy_17 : decode b_Pur_spentBy 17 = .ok (.ireturn, 1) := by decide +kernel
theorem d_Pur_leftTo_0 : decode b_Pur_leftTo 0 = .ok (.aload_n 0, 1) := by decide +kernel
theorem d_Pur_leftTo_1 : decode b_Pur_leftTo 1 = .ok (.iload_n 1, 1) := by decide +kernel
theorem d_Pur_leftTo_2 : decode b_Pur_leftTo 2 = .ok (.invokevirtual 20, 3) := by decide +kernel
theorem d_Pur_leftTo_5 : decode b_Pur_leftTo 5 = .ok (.aload_n 0, 1) := by decide +kernel
theorem d_Pur_leftTo_6 : decode b_Pur_leftTo 6 = .ok (.iload_n 1, 1) := by decide +kernel
theorem d_Pur_leftTo_7 : decode b_Pur_leftTo 7 = .ok (.invokevirtual 24, 3) := by decide +kernel
theorem d_Pur_leftTo_10 : decode b_Pur_leftTo 10 = .ok (.isub, 1) := by decide +kernel
theorem d_Pur_leftTo_11 : decode b_Pur_leftTo 11 = .ok (.ireturn, 1) := by decide +kernel
theorem d_Pur_grant_0 : decode b_Pur_grant 0 = .ok (.iload_n 1, 1) := by decide +kernel
theorem d_Pur_grant_1 : decode b_Pur_grant 1 = .ok (.invokestatic 16, 3) := by decide +kernel
theorem d_Pur_grant_4 : decode b_Pur_grant 4 = .ok (.ifCond .eq 10, 3) := by decide +kernel
theorem d_Pur_grant_7 : decode b_Pur_grant 7 = .ok (.aload_n 0, 1) := by decide +kernel
theorem d_Pur_grant_8 : decode b_Pur_grant 8 = .ok (.getfield 9, 3) := by decide +kernel
theorem d_Pur_grant_11 : decode b_Pur_grant 11 = .ok (.iload_n 1, 1) := by decide +kernel
theorem d_Pur_grant_12 : decode b_Pur_grant 12 = .ok (.iload_n 2, 1) := by decide +kernel
theorem d_Pur_grant_13 : decode b_Pur_grant 13 = .ok (.iastore, 1) := by decide +kernel
theorem d_Pur_grant_14 : decode b_Pur_grant 14 = .ok (.return_, 1) := by decide +kernel
theorem d_Pur_spend_0 : decode b_Pur_spend 0 = .ok (.iload_n 1, 1) := by decide +kernel
theorem d_Pur_spend_1 : decode b_Pur_spend 1 = .ok (.invokestatic 16, 3) := by decide +kernel
theorem d_Pur_spend_4 : decode b_Pur_spend 4 = .ok (.ifCond .eq 13, 3) := by decide +kernel
theorem d_Pur_spend_7 : decode b_Pur_spend 7 = .ok (.aload_n 0, 1) := by decide +kernel
theorem d_Pur_spend_8 : decode b_Pur_spend 8 = .ok (.getfield 13, 3) := by decide +kernel
theorem d_Pur_spend_11 : decode b_Pur_spend 11 = .ok (.iload_n 1, 1) := by decide +kernel
theorem d_Pur_spend_12 : decode b_Pur_spend 12 = .ok (.dup2, 1) := by decide +kernel
theorem d_Pur_spend_13 : decode b_Pur_spend 13 = .ok (.iaload, 1) := by decide +kernel
theorem d_Pur_spend_14 : decode b_Pur_spend 14 = .ok (.iload_n 2, 1) := by decide +kernel
theorem d_Pur_spend_15 : decode b_Pur_spend 15 = .ok (.iadd, 1) := by decide +kernel
theorem d_Pur_spend_16 : decode b_Pur_spend 16 = .ok (.iastore, 1) := by decide +kernel
theorem d_Pur_spend_17 : decode b_Pur_spend 17 = .ok (.return_, 1) := by decide +kernel
theorem k_16 : (.methodLink R_Pur 16 y_Pur_isKnown : Cond) ∈ wG := wGm 439 (by decide +kernel) (by decide +kernel)
theorem k_17 : (.static y_Pur_isKnown : Cond) ∈ wG := wGm 432 (by decide +kernel) (by decide +kernel)
theorem k_18 : (.initialized R_Pur : Cond) ∈ wG := wGm 89 (by decide +kernel) (by decide +kernel)
theorem k_19 : (.code y_Pur_isKnown b_Pur_isKnown 1 (some .boolean) : Cond) ∈ wG := wGm 433 (by decide +kernel) (by decide +kernel)
theorem k_20 : (.fieldLink R_Pur 9 "PrivateQueries$Purses" "granted" "[I" : Cond) ∈ wG := wGm 161 (by decide +kernel) (by decide +kernel)
theorem k_21 : (.fieldLink R_Pur 13 "PrivateQueries$Purses" "spent" "[I" : Cond) ∈ wG := wGm 162 (by decide +kernel) (by decide +kernel)
theorem k_22 : (.methodLink R_Pur 20 y_Pur_grantedTo : Cond) ∈ wG := wGm 456 (by decide +kernel) (by decide +kernel)
theorem k_23 : (.instanceMethod y_Pur_grantedTo : Cond) ∈ wG := wGm 441 (by decide +kernel) (by decide +kernel)
theorem k_24 : (.selects R_Pur y_Pur_grantedTo y_Pur_grantedTo : Cond) ∈ wG := wGm 442 (by decide +kernel) (by decide +kernel)
theorem k_25 : (.code y_Pur_grantedTo b_Pur_grantedTo 2 (some .int) : Cond) ∈ wG := wGm 443 (by decide +kernel) (by decide +kernel)
theorem k_26 : (.methodLink R_Pur 24 y_Pur_spentBy : Cond) ∈ wG := wGm 457 (by decide +kernel) (by decide +kernel)
theorem k_27 : (.instanceMethod y_Pur_spentBy : Cond) ∈ wG := wGm 436 (by decide +kernel) (by decide +kernel)
theorem k_28 : (.selects R_Pur y_Pur_spentBy y_Pur_spentBy : Cond) ∈ wG := wGm 437 (by decide +kernel) (by decide +kernel)
theorem k_29 : (.code y_Pur_spentBy b_Pur_spentBy 2 (some .int) : Cond) ∈ wG := wGm 438 (by decide +kernel) (by decide +kernel)
theorem g_Pur_16 : GoodIn wG (wsS R_Pur 16 y_Pur_isKnown w_Pur_isKnown) := wGa (fun w hw => by
  rcases List.mem_cons.mp hw with e | hw
  · exact e ▸ k_16
  rcases List.mem_cons.mp hw with e | hw
  · exact e ▸ k_17
  rcases List.mem_cons.mp hw with e | hw
  · exact e ▸ k_18
  · exact absurd hw List.not_mem_nil) (wGc k_19)
theorem g_Pur_20 : GoodIn wG (wsV R_Pur 20 R_Pur y_Pur_grantedTo w_Pur_grantedTo) := wGa (fun w hw => by
  rcases List.mem_cons.mp hw with e | hw
  · exact e ▸ k_22
  rcases List.mem_cons.mp hw with e | hw
  · exact e ▸ k_23
  rcases List.mem_cons.mp hw with e | hw
  · exact e ▸ k_24
  rcases List.mem_cons.mp hw with e | hw
  · exact e ▸ k_18
  · exact absurd hw List.not_mem_nil) (wGc k_25)
theorem g_Pur_24 : GoodIn wG (wsV R_Pur 24 R_Pur y_Pur_spentBy w_Pur_spentBy) := wGa (fun w hw => by
  rcases List.mem_cons.mp hw with e | hw
  · exact e ▸ k_26
  rcases List.mem_cons.mp hw with e | hw
  · exact e ▸ k_27
  rcases List.mem_cons.mp hw with e | hw
  · exact e ▸ k_28
  rcases List.mem_cons.mp hw with e | hw
  · exact e ▸ k_18
  · exact absurd hw List.not_mem_nil) (wGc k_29)
theorem z_Pur_isAsker {x : Int32} : isB (s_Pur_isAsker x) := by
  rw [s_Pur_isAsker]
  by_cases ct1 : x < 0
  · rw [if_pos ct1]
    first | exact isB_0 | exact isB_1 | assumption
  rw [if_neg ct1]
  by_cases ct2 : 4 ≤ x
  · rw [if_pos ct2]
    first | exact isB_0 | exact isB_1 | assumption
  rw [if_neg ct2]
  first | exact isB_0 | exact isB_1 | assumption
set_option maxHeartbeats 4000000 in
set_option maxRecDepth 100000 in
theorem c_Pur_isAsker (l : Launch) (G : GG)  (x : Int32) : Det l G y_Pur_isAsker w_Pur_isAsker (rmD 0) 0 0 [.int x] [] (some (.int (s_Pur_isAsker x))) [] := by
  refine Det.of (cc := b_Pur_isAsker) (maxL := 1) (ret := (some .boolean)) (by decide) rfl (Nat.le_of_ble_eq_true rfl) ?_
  intro p e s m args below meth c A ls hx hb hr hml hown hts hlocks hin hA hK hZ hP hD hS hl
  have hts : ∀ w ∈ wG, w.before args s = true := fun w h => hts w (List.mem_cons_of_mem _ h)
  have hown : s.vm.findClass R_Pur = some m.cls := hown
  have hl : lv_has ls 1 [(0, .int x)] := hl
  refine lv_iload_n hx hb d_Pur_isAsker_0 rfl (lv_at hl 0 rfl) ?_
  refine lv_if_lt (tgt := 13) hx hb d_Pur_isAsker_1 (by decide) (fun c1 => ?_) (fun c1 => ?_)
  · skip
    refine lv_iconst (v := 0) hx hb d_Pur_isAsker_13 (by decide) ?_
    exact ly_zret hx hb hr hlocks hP hD hS d_Pur_isAsker_14 (by decide) (by rw [s_Pur_isAsker, if_pos c1]) rfl
  refine lv_iload_n hx hb d_Pur_isAsker_4 rfl (lv_at hl 0 rfl) ?_
  refine lv_iconst (v := 4) hx hb d_Pur_isAsker_5 (by decide) ?_
  refine lv_icmp_ge (tgt := 13) hx hb d_Pur_isAsker_6 (by decide) (fun c2 => ?_) (fun c2 => ?_)
  · skip
    refine lv_iconst (v := 0) hx hb d_Pur_isAsker_13 (by decide) ?_
    exact ly_zret hx hb hr hlocks hP hD hS d_Pur_isAsker_14 (by decide) (by rw [s_Pur_isAsker, if_neg c1, if_pos c2]) rfl
  refine lv_iconst (v := 1) hx hb d_Pur_isAsker_9 (by decide) ?_
  refine lv_goto (tgt := 14) hx hb d_Pur_isAsker_10 (by decide) ?_
  exact ly_zret hx hb hr hlocks hP hD hS d_Pur_isAsker_14 (by decide) (by rw [s_Pur_isAsker, if_neg c1, if_neg c2]) rfl

theorem z_Pur_isKnown {x : Int32} : isB (s_Pur_isKnown x) := by
  rw [s_Pur_isKnown]
  by_cases ct1 : x < 0
  · rw [if_pos ct1]
    first | exact isB_0 | exact isB_1 | assumption
  rw [if_neg ct1]
  by_cases ct2 : 4 < x
  · rw [if_pos ct2]
    first | exact isB_0 | exact isB_1 | assumption
  rw [if_neg ct2]
  first | exact isB_0 | exact isB_1 | assumption
set_option maxHeartbeats 4000000 in
set_option maxRecDepth 100000 in
theorem c_Pur_isKnown (l : Launch) (G : GG)  (x : Int32) : Det l G y_Pur_isKnown w_Pur_isKnown (rmD 0) 0 0 [.int x] [] (some (.int (s_Pur_isKnown x))) [] := by
  refine Det.of (cc := b_Pur_isKnown) (maxL := 1) (ret := (some .boolean)) (by decide) rfl (Nat.le_of_ble_eq_true rfl) ?_
  intro p e s m args below meth c A ls hx hb hr hml hown hts hlocks hin hA hK hZ hP hD hS hl
  have hts : ∀ w ∈ wG, w.before args s = true := fun w h => hts w (List.mem_cons_of_mem _ h)
  have hown : s.vm.findClass R_Pur = some m.cls := hown
  have hl : lv_has ls 1 [(0, .int x)] := hl
  refine lv_iload_n hx hb d_Pur_isKnown_0 rfl (lv_at hl 0 rfl) ?_
  refine lv_if_lt (tgt := 13) hx hb d_Pur_isKnown_1 (by decide) (fun c1 => ?_) (fun c1 => ?_)
  · skip
    refine lv_iconst (v := 0) hx hb d_Pur_isKnown_13 (by decide) ?_
    exact ly_zret hx hb hr hlocks hP hD hS d_Pur_isKnown_14 (by decide) (by rw [s_Pur_isKnown, if_pos c1]) rfl
  refine lv_iload_n hx hb d_Pur_isKnown_4 rfl (lv_at hl 0 rfl) ?_
  refine lv_iconst (v := 4) hx hb d_Pur_isKnown_5 (by decide) ?_
  refine lv_icmp_gt (tgt := 13) hx hb d_Pur_isKnown_6 (by decide) (fun c2 => ?_) (fun c2 => ?_)
  · skip
    refine lv_iconst (v := 0) hx hb d_Pur_isKnown_13 (by decide) ?_
    exact ly_zret hx hb hr hlocks hP hD hS d_Pur_isKnown_14 (by decide) (by rw [s_Pur_isKnown, if_neg c1, if_pos c2]) rfl
  refine lv_iconst (v := 1) hx hb d_Pur_isKnown_9 (by decide) ?_
  refine lv_goto (tgt := 14) hx hb d_Pur_isKnown_10 (by decide) ?_
  exact ly_zret hx hb hr hlocks hP hD hS d_Pur_isKnown_14 (by decide) (by rw [s_Pur_isKnown, if_neg c1, if_neg c2]) rfl

set_option maxHeartbeats 4000000 in
set_option maxRecDepth 100000 in
theorem c_Pur_grantedTo (l : Launch) (G : GG) (h : Nat) (a_granted : Nat) (a_spent : Nat) (f_granted : Nat → Int32) (x : Int32) : Det l G y_Pur_grantedTo w_Pur_grantedTo (rmD 1) 0 0 [.ref h, .int x] [(h, .inr (3, [.ref a_granted, .ref a_spent])), (a_granted, .inl (gI G, 5, .inl f_granted))] (some (.int (s_Pur_grantedTo f_granted x))) [(h, .inr (3, [.ref a_granted, .ref a_spent])), (a_granted, .inl (gI G, 5, .inl f_granted))] := by
  refine Det.of (cc := b_Pur_grantedTo) (maxL := 2) (ret := (some .int)) (by decide) rfl (Nat.le_of_ble_eq_true rfl) ?_
  intro p e s m args below meth c A ls hx hb hr hml hown hts hlocks hin hA hK hZ hP hD hS hl
  have hts : ∀ w ∈ wG, w.before args s = true := fun w h => hts w (List.mem_cons_of_mem _ h)
  have hown : s.vm.findClass R_Pur = some m.cls := hown
  have hl : lv_has ls 2 [(0, .ref h), (1, .int x)] := hl
  refine lv_iload_n hx hb d_Pur_grantedTo_0 rfl (lv_at hl 1 rfl) ?_
  obtain ⟨r1, hr1⟩ : ∃ r, (s_Pur_isKnown x) = r := ⟨_, rfl⟩
  have hC_r1 := (c_Pur_isKnown l G x)
  rw [hr1] at hC_r1
  have hf_r1_1 : isB r1 := by rw [← hr1]; exact z_Pur_isKnown
  refine ly_callS (rest := []) (wf := [(h, .inr (3, [.ref a_granted, .ref a_spent])), (a_granted, .inl (gI G, 5, .inl f_granted))]) ⟨hx, hb, hml, hown, hts⟩ hA hK hZ hP hD hS hC_r1 (cwS 1 hts g_Pur_16 rfl rfl rfl (by decide +kernel) ⟨Nat.le_of_ble_eq_true rfl, Nat.le_of_ble_eq_true rfl⟩) [] rfl (by decide) rfl rfl rfl hl.1 rfl (Nat.le_of_ble_eq_true rfl) d_Pur_grantedTo_1 ⟨Nat.le_of_ble_eq_true rfl, Nat.le_of_ble_eq_true rfl⟩ (st1 := [.int r1]) (c1 := 0) (s1 := 0) rfl rfl rfl (fun H locs hP hD hS => ?_)
  refine lv_if_eq (tgt := 16) hx hb d_Pur_grantedTo_4 (by decide) (fun c1 => ?_) (fun c1 => ?_)
  · skip
    refine lv_iconst (v := 0) hx hb d_Pur_grantedTo_16 (by decide) ?_
    exact ly_iret hx hb hr hlocks hP hD hS d_Pur_grantedTo_17 (by rw [s_Pur_grantedTo] <;> simp only [hr1] <;> rw [if_pos c1]) rfl
  refine lv_aload_n hx hb d_Pur_grantedTo_7 rfl (lv_at hl 0 rfl) ?_
  refine va_get (D := G.1) (ci := 3) (C := R_Pur) (T := F_Pur) (N := 2) (v := .ref a_granted) hx hb hts i_Pur hown hK hP 0 rfl rfl 0 (by decide) (hts (.fieldLink R_Pur 9 "PrivateQueries$Purses" "granted" "[I") k_20) (fun _ h9 => h9) rfl d_Pur_grantedTo_8 ?_
  refine lv_iload_n hx hb d_Pur_grantedTo_11 rfl (lv_at hl 1 rfl) ?_
  refine va_iald hx hb hK hP 1 0 rfl rfl (pu_in (by rw [hr1]; exact c1)) d_Pur_grantedTo_12 ?_
  refine lv_goto (tgt := 17) hx hb d_Pur_grantedTo_13 (by decide) ?_
  exact ly_iret hx hb hr hlocks hP hD hS d_Pur_grantedTo_17 (by rw [s_Pur_grantedTo] <;> simp only [hr1] <;> rw [if_neg c1]) rfl

set_option maxHeartbeats 4000000 in
set_option maxRecDepth 100000 in
theorem c_Pur_spentBy (l : Launch) (G : GG) (h : Nat) (a_granted : Nat) (a_spent : Nat) (f_spent : Nat → Int32) (x : Int32) : Det l G y_Pur_spentBy w_Pur_spentBy (rmD 1) 0 0 [.ref h, .int x] [(h, .inr (3, [.ref a_granted, .ref a_spent])), (a_spent, .inl (gI G, 5, .inl f_spent))] (some (.int (s_Pur_spentBy f_spent x))) [(h, .inr (3, [.ref a_granted, .ref a_spent])), (a_spent, .inl (gI G, 5, .inl f_spent))] := by
  refine Det.of (cc := b_Pur_spentBy) (maxL := 2) (ret := (some .int)) (by decide) rfl (Nat.le_of_ble_eq_true rfl) ?_
  intro p e s m args below meth c A ls hx hb hr hml hown hts hlocks hin hA hK hZ hP hD hS hl
  have hts : ∀ w ∈ wG, w.before args s = true := fun w h => hts w (List.mem_cons_of_mem _ h)
  have hown : s.vm.findClass R_Pur = some m.cls := hown
  have hl : lv_has ls 2 [(0, .ref h), (1, .int x)] := hl
  refine lv_iload_n hx hb d_Pur_spentBy_0 rfl (lv_at hl 1 rfl) ?_
  obtain ⟨r1, hr1⟩ : ∃ r, (s_Pur_isKnown x) = r := ⟨_, rfl⟩
  have hC_r1 := (c_Pur_isKnown l G x)
  rw [hr1] at hC_r1
  have hf_r1_1 : isB r1 := by rw [← hr1]; exact z_Pur_isKnown
  refine ly_callS (rest := []) (wf := [(h, .inr (3, [.ref a_granted, .ref a_spent])), (a_spent, .inl (gI G, 5, .inl f_spent))]) ⟨hx, hb, hml, hown, hts⟩ hA hK hZ hP hD hS hC_r1 (cwS 1 hts g_Pur_16 rfl rfl rfl (by decide +kernel) ⟨Nat.le_of_ble_eq_true rfl, Nat.le_of_ble_eq_true rfl⟩) [] rfl (by decide) rfl rfl rfl hl.1 rfl (Nat.le_of_ble_eq_true rfl) d_Pur_spentBy_1 ⟨Nat.le_of_ble_eq_true rfl, Nat.le_of_ble_eq_true rfl⟩ (st1 := [.int r1]) (c1 := 0) (s1 := 0) rfl rfl rfl (fun H locs hP hD hS => ?_)
  refine lv_if_eq (tgt := 16) hx hb d_Pur_spentBy_4 (by decide) (fun c1 => ?_) (fun c1 => ?_)
  · skip
    refine lv_iconst (v := 0) hx hb d_Pur_spentBy_16 (by decide) ?_
    exact ly_iret hx hb hr hlocks hP hD hS d_Pur_spentBy_17 (by rw [s_Pur_spentBy] <;> simp only [hr1] <;> rw [if_pos c1]) rfl
  refine lv_aload_n hx hb d_Pur_spentBy_7 rfl (lv_at hl 0 rfl) ?_
  refine va_get (D := G.1) (ci := 3) (C := R_Pur) (T := F_Pur) (N := 2) (v := .ref a_spent) hx hb hts i_Pur hown hK hP 0 rfl rfl 1 (by decide) (hts (.fieldLink R_Pur 13 "PrivateQueries$Purses" "spent" "[I") k_21) (fun _ h9 => h9) rfl d_Pur_spentBy_8 ?_
  refine lv_iload_n hx hb d_Pur_spentBy_11 rfl (lv_at hl 1 rfl) ?_
  refine va_iald hx hb hK hP 1 0 rfl rfl (pu_in (by rw [hr1]; exact c1)) d_Pur_spentBy_12 ?_
  refine lv_goto (tgt := 17) hx hb d_Pur_spentBy_13 (by decide) ?_
  exact ly_iret hx hb hr hlocks hP hD hS d_Pur_spentBy_17 (by rw [s_Pur_spentBy] <;> simp only [hr1] <;> rw [if_neg c1]) rfl

set_option maxHeartbeats 4000000 in
set_option maxRecDepth 100000 in
theorem c_Pur_leftTo (l : Launch) (G : GG) (h : Nat) (a_granted : Nat) (a_spent : Nat) (f_granted : Nat → Int32) (f_spent : Nat → Int32) (x : Int32) : Det l G y_Pur_leftTo w_Pur_leftTo (rmD 2) 0 0 [.ref h, .int x] [(h, .inr (3, [.ref a_granted, .ref a_spent])), (a_granted, .inl (gI G, 5, .inl f_granted)), (a_spent, .inl (gI G, 5, .inl f_spent))] (some (.int (s_Pur_leftTo f_granted f_spent x))) [(h, .inr (3, [.ref a_granted, .ref a_spent])), (a_granted, .inl (gI G, 5, .inl f_granted)), (a_spent, .inl (gI G, 5, .inl f_spent))] := by
  refine Det.of (cc := b_Pur_leftTo) (maxL := 2) (ret := (some .int)) (by decide) rfl (Nat.le_of_ble_eq_true rfl) ?_
  intro p e s m args below meth c A ls hx hb hr hml hown hts hlocks hin hA hK hZ hP hD hS hl
  have hts : ∀ w ∈ wG, w.before args s = true := fun w h => hts w (List.mem_cons_of_mem _ h)
  have hown : s.vm.findClass R_Pur = some m.cls := hown
  have hl : lv_has ls 2 [(0, .ref h), (1, .int x)] := hl
  refine lv_aload_n hx hb d_Pur_leftTo_0 rfl (lv_at hl 0 rfl) ?_
  refine lv_iload_n hx hb d_Pur_leftTo_1 rfl (lv_at hl 1 rfl) ?_
  obtain ⟨r1, hr1⟩ : ∃ r, (s_Pur_grantedTo f_granted x) = r := ⟨_, rfl⟩
  have hC_r1 := (c_Pur_grantedTo l G h a_granted a_spent f_granted x)
  rw [hr1] at hC_r1
  refine ly_callV (rest := []) (wf := [(h, .inr (3, [.ref a_granted, .ref a_spent])), (a_granted, .inl (gI G, 5, .inl f_granted)), (a_spent, .inl (gI G, 5, .inl f_spent))]) ⟨hx, hb, hml, hown, hts⟩ hA hK hZ hP hD hS hC_r1 (cwV 1 hts g_Pur_20 rfl rfl rfl (by decide +kernel) ⟨Nat.le_of_ble_eq_true rfl, Nat.le_of_ble_eq_true rfl⟩) (ci := 3) (q0 := 0) rfl rfl rfl [0, 1] rfl (by decide) rfl rfl rfl hl.1 rfl (Nat.le_of_ble_eq_true rfl) d_Pur_leftTo_2 ⟨Nat.le_of_ble_eq_true rfl, Nat.le_of_ble_eq_true rfl⟩ (st1 := [.int r1]) (c1 := 0) (s1 := 0) rfl rfl rfl (fun H locs hP hD hS => ?_)
  refine lv_aload_n hx hb d_Pur_leftTo_5 rfl (lv_at hl 0 rfl) ?_
  refine lv_iload_n hx hb d_Pur_leftTo_6 rfl (lv_at hl 1 rfl) ?_
  obtain ⟨r2, hr2⟩ : ∃ r, (s_Pur_spentBy f_spent x) = r := ⟨_, rfl⟩
  have hC_r2 := (c_Pur_spentBy l G h a_granted a_spent f_spent x)
  rw [hr2] at hC_r2
  refine ly_callV (rest := [.int r1]) (wf := [(h, .inr (3, [.ref a_granted, .ref a_spent])), (a_granted, .inl (gI G, 5, .inl f_granted)), (a_spent, .inl (gI G, 5, .inl f_spent))]) ⟨hx, hb, hml, hown, hts⟩ hA hK hZ hP hD hS hC_r2 (cwV 1 hts g_Pur_24 rfl rfl rfl (by decide +kernel) ⟨Nat.le_of_ble_eq_true rfl, Nat.le_of_ble_eq_true rfl⟩) (ci := 3) (q0 := 0) rfl rfl rfl [0, 2] rfl (by decide) rfl rfl rfl hl.1 rfl (Nat.le_of_ble_eq_true rfl) d_Pur_leftTo_7 ⟨Nat.le_of_ble_eq_true rfl, Nat.le_of_ble_eq_true rfl⟩ (st1 := [.int r2, .int r1]) (c1 := 0) (s1 := 0) rfl rfl rfl (fun H locs hP hD hS => ?_)
  refine lv_isub hx hb d_Pur_leftTo_10 ?_
  exact ly_iret hx hb hr hlocks hP hD hS d_Pur_leftTo_11 (by rw [s_Pur_leftTo] <;> simp only [hr1, hr2]) rfl

set_option maxHeartbeats 4000000 in
set_option maxRecDepth 100000 in
theorem c_Pur_grant (l : Launch) (G : GG) (h : Nat) (a_granted : Nat) (a_spent : Nat) (f_granted : Nat → Int32) (x : Int32) (z : Int32) : Det l G y_Pur_grant w_Pur_grant (rmD 1) 0 0 [.ref h, .int x, .int z] [(h, .inr (3, [.ref a_granted, .ref a_spent])), (a_granted, .inl (gI G, 5, .inl f_granted))] none [(h, .inr (3, [.ref a_granted, .ref a_spent])), (a_granted, .inl (gI G, 5, .inl (s_Pur_grant f_granted x z)))] := by
  refine Det.of (cc := b_Pur_grant) (maxL := 3) (ret := none) (by decide) rfl (Nat.le_of_ble_eq_true rfl) ?_
  intro p e s m args below meth c A ls hx hb hr hml hown hts hlocks hin hA hK hZ hP hD hS hl
  have hts : ∀ w ∈ wG, w.before args s = true := fun w h => hts w (List.mem_cons_of_mem _ h)
  have hown : s.vm.findClass R_Pur = some m.cls := hown
  have hl : lv_has ls 3 [(0, .ref h), (1, .int x), (2, .int z)] := hl
  refine lv_iload_n hx hb d_Pur_grant_0 rfl (lv_at hl 1 rfl) ?_
  obtain ⟨r1, hr1⟩ : ∃ r, (s_Pur_isKnown x) = r := ⟨_, rfl⟩
  have hC_r1 := (c_Pur_isKnown l G x)
  rw [hr1] at hC_r1
  have hf_r1_1 : isB r1 := by rw [← hr1]; exact z_Pur_isKnown
  refine ly_callS (rest := []) (wf := [(h, .inr (3, [.ref a_granted, .ref a_spent])), (a_granted, .inl (gI G, 5, .inl f_granted))]) ⟨hx, hb, hml, hown, hts⟩ hA hK hZ hP hD hS hC_r1 (cwS 1 hts g_Pur_16 rfl rfl rfl (by decide +kernel) ⟨Nat.le_of_ble_eq_true rfl, Nat.le_of_ble_eq_true rfl⟩) [] rfl (by decide) rfl rfl rfl hl.1 rfl (Nat.le_of_ble_eq_true rfl) d_Pur_grant_1 ⟨Nat.le_of_ble_eq_true rfl, Nat.le_of_ble_eq_true rfl⟩ (st1 := [.int r1]) (c1 := 0) (s1 := 0) rfl rfl rfl (fun H locs hP hD hS => ?_)
  refine lv_if_eq (tgt := 14) hx hb d_Pur_grant_4 (by decide) (fun c1 => ?_) (fun c1 => ?_)
  · skip
    exact ly_vret hx hb hr hlocks hP hD hS d_Pur_grant_14 rfl (by rw [s_Pur_grant] <;> simp only [hr1] <;> rw [if_pos c1])
  refine lv_aload_n hx hb d_Pur_grant_7 rfl (lv_at hl 0 rfl) ?_
  refine va_get (D := G.1) (ci := 3) (C := R_Pur) (T := F_Pur) (N := 2) (v := .ref a_granted) hx hb hts i_Pur hown hK hP 0 rfl rfl 0 (by decide) (hts (.fieldLink R_Pur 9 "PrivateQueries$Purses" "granted" "[I") k_20) (fun _ h9 => h9) rfl d_Pur_grant_8 ?_
  refine lv_iload_n hx hb d_Pur_grant_11 rfl (lv_at hl 1 rfl) ?_
  refine lv_iload_n hx hb d_Pur_grant_12 rfl (lv_at hl 2 rfl) ?_
  refine va_iast hx hb hK hP hD hS 1 0 rfl rfl (pu_in (by rw [hr1]; exact c1)) d_Pur_grant_13 (fun H locs hP hD hS => ?_)
  have hP : va_P G.1 classes [(h, .inr (3, [.ref a_granted, .ref a_spent])), (a_granted, .inl (gI G, 5, .inl (upd f_granted x.toNatClampNeg z)))] H := hP
  have hD : va_D A [(h, .inr (3, [.ref a_granted, .ref a_spent])), (a_granted, .inl (gI G, 5, .inl (upd f_granted x.toNatClampNeg z)))] := hD
  exact ly_vret hx hb hr hlocks hP hD hS d_Pur_grant_14 rfl (by rw [s_Pur_grant] <;> simp only [hr1] <;> rw [if_neg c1])

set_option maxHeartbeats 4000000 in
set_option maxRecDepth 100000 in
theorem c_Pur_spend (l : Launch) (G : GG) (h : Nat) (a_granted : Nat) (a_spent : Nat) (f_spent : Nat → Int32) (x : Int32) (z : Int32) : Det l G y_Pur_spend w_Pur_spend (rmD 1) 0 0 [.ref h, .int x, .int z] [(h, .inr (3, [.ref a_granted, .ref a_spent])), (a_spent, .inl (gI G, 5, .inl f_spent))] none [(h, .inr (3, [.ref a_granted, .ref a_spent])), (a_spent, .inl (gI G, 5, .inl (s_Pur_spend f_spent x z)))] := by
  refine Det.of (cc := b_Pur_spend) (maxL := 3) (ret := none) (by decide) rfl (Nat.le_of_ble_eq_true rfl) ?_
  intro p e s m args below meth c A ls hx hb hr hml hown hts hlocks hin hA hK hZ hP hD hS hl
  have hts : ∀ w ∈ wG, w.before args s = true := fun w h => hts w (List.mem_cons_of_mem _ h)
  have hown : s.vm.findClass R_Pur = some m.cls := hown
  have hl : lv_has ls 3 [(0, .ref h), (1, .int x), (2, .int z)] := hl
  refine lv_iload_n hx hb d_Pur_spend_0 rfl (lv_at hl 1 rfl) ?_
  obtain ⟨r1, hr1⟩ : ∃ r, (s_Pur_isKnown x) = r := ⟨_, rfl⟩
  have hC_r1 := (c_Pur_isKnown l G x)
  rw [hr1] at hC_r1
  have hf_r1_1 : isB r1 := by rw [← hr1]; exact z_Pur_isKnown
  refine ly_callS (rest := []) (wf := [(h, .inr (3, [.ref a_granted, .ref a_spent])), (a_spent, .inl (gI G, 5, .inl f_spent))]) ⟨hx, hb, hml, hown, hts⟩ hA hK hZ hP hD hS hC_r1 (cwS 1 hts g_Pur_16 rfl rfl rfl (by decide +kernel) ⟨Nat.le_of_ble_eq_true rfl, Nat.le_of_ble_eq_true rfl⟩) [] rfl (by decide) rfl rfl rfl hl.1 rfl (Nat.le_of_ble_eq_true rfl) d_Pur_spend_1 ⟨Nat.le_of_ble_eq_true rfl, Nat.le_of_ble_eq_true rfl⟩ (st1 := [.int r1]) (c1 := 0) (s1 := 0) rfl rfl rfl (fun H locs hP hD hS => ?_)
  refine lv_if_eq (tgt := 17) hx hb d_Pur_spend_4 (by decide) (fun c1 => ?_) (fun c1 => ?_)
  · skip
    exact ly_vret hx hb hr hlocks hP hD hS d_Pur_spend_17 rfl (by rw [s_Pur_spend] <;> simp only [hr1] <;> rw [if_pos c1])
  refine lv_aload_n hx hb d_Pur_spend_7 rfl (lv_at hl 0 rfl) ?_
  refine va_get (D := G.1) (ci := 3) (C := R_Pur) (T := F_Pur) (N := 2) (v := .ref a_spent) hx hb hts i_Pur hown hK hP 0 rfl rfl 1 (by decide) (hts (.fieldLink R_Pur 13 "PrivateQueries$Purses" "spent" "[I") k_21) (fun _ h9 => h9) rfl d_Pur_spend_8 ?_
  refine lv_iload_n hx hb d_Pur_spend_11 rfl (lv_at hl 1 rfl) ?_
  refine lv_dup2_11 hx hb d_Pur_spend_12 rfl rfl ?_
  refine va_iald hx hb hK hP 1 0 rfl rfl (pu_in (by rw [hr1]; exact c1)) d_Pur_spend_13 ?_
  refine lv_iload_n hx hb d_Pur_spend_14 rfl (lv_at hl 2 rfl) ?_
  refine lv_iadd hx hb d_Pur_spend_15 ?_
  refine va_iast hx hb hK hP hD hS 1 0 rfl rfl (pu_in (by rw [hr1]; exact c1)) d_Pur_spend_16 (fun H locs hP hD hS => ?_)
  have hP : va_P G.1 classes [(h, .inr (3, [.ref a_granted, .ref a_spent])), (a_spent, .inl (gI G, 5, .inl (upd f_spent x.toNatClampNeg ((f_spent x.toNatClampNeg) + z))))] H := hP
  have hD : va_D A [(h, .inr (3, [.ref a_granted, .ref a_spent])), (a_spent, .inl (gI G, 5, .inl (upd f_spent x.toNatClampNeg ((f_spent x.toNatClampNeg) + z))))] := hD
  exact ly_vret hx hb hr hlocks hP hD hS d_Pur_spend_17 rfl (by rw [s_Pur_spend] <;> simp only [hr1] <;> rw [if_neg c1])
