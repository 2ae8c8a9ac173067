theorem d_Mo_begin_0 : decode b_Mo_begin 0 = .ok (.iconst 0, 1) := by decide +kernel
theorem d_Mo_begin_1 : decode b_Mo_begin 1 = .ok (.istore_n 2, 1) := by decide +kernel
theorem d_Mo_begin_2 : decode b_Mo_begin 2 = .ok (.iload_n 2, 1) := by decide +kernel
theorem d_Mo_begin_3 : decode b_Mo_begin 3 = .ok (.sipush 240, 3) := by decide +kernel
theorem d_Mo_begin_6 : decode b_Mo_begin 6 = .ok (.if_icmp .ge 13, 3) := by decide +kernel
theorem d_Mo_begin_9 : decode b_Mo_begin 9 = .ok (.aload_n 1, 1) := by decide +kernel
theorem d_Mo_begin_10 : decode b_Mo_begin 10 = .ok (.iload_n 2, 1) := by decide +kernel
theorem d_Mo_begin_11 : decode b_Mo_begin 11 = .ok (.iconst 0, 1) := by decide +kernel
theorem d_Mo_begin_12 : decode b_Mo_begin 12 = .ok (.iastore, 1) := by decide +kernel
theorem d_Mo_begin_13 : decode b_Mo_begin 13 = .ok (.iinc 2 1, 3) := by decide +kernel
theorem d_Mo_begin_16 : decode b_Mo_begin 16 = .ok (.goto (-14), 3) := by decide +kernel
theorem d_Mo_begin_19 : decode b_Mo_begin 19 = .ok (.aload_n 1, 1) := by decide +kernel
theorem d_Mo_begin_20 : decode b_Mo_begin 20 = .ok (.iconst 0, 1) := by decide +kernel
theorem d_Mo_begin_21 : decode b_Mo_begin 21 = .ok (.iconst 1, 1) := by decide +kernel
theorem d_Mo_begin_22 : decode b_Mo_begin 22 = .ok (.iastore, 1) := by decide +kernel
theorem d_Mo_begin_23 : decode b_Mo_begin 23 = .ok (.return_, 1) := by decide +kernel
theorem d_Mo_grow_0 : decode b_Mo_grow 0 = .ok (.iconst 0, 1) := by decide +kernel
theorem d_Mo_grow_1 : decode b_Mo_grow 1 = .ok (.istore 4, 2) := by decide +kernel
theorem d_Mo_grow_3 : decode b_Mo_grow 3 = .ok (.iload 4, 2) := by decide +kernel
theorem d_Mo_grow_5 : decode b_Mo_grow 5 = .ok (.iload_n 3, 1) := by decide +kernel
theorem d_Mo_grow_6 : decode b_Mo_grow 6 = .ok (.if_icmp .ge 56, 3) := by decide +kernel
theorem d_Mo_grow_9 : decode b_Mo_grow 9 = .ok (.iconst 0, 1) := by decide +kernel
theorem d_Mo_grow_10 : decode b_Mo_grow 10 = .ok (.istore 5, 2) := by decide +kernel
theorem d_Mo_grow_12 : decode b_Mo_grow 12 = .ok (.iconst 0, 1) := by decide +kernel
theorem d_Mo_grow_13 : decode b_Mo_grow 13 = .ok (.istore 6, 2) := by decide +kernel
theorem d_Mo_grow_15 : decode b_Mo_grow 15 = .ok (.iload 6, 2) := by decide +kernel
theorem d_Mo_grow_17 : decode b_Mo_grow 17 = .ok (.sipush 240, 3) := by decide +kernel
theorem d_Mo_grow_20 : decode b_Mo_grow 20 = .ok (.if_icmp .ge 36, 3) := by decide +kernel
theorem d_Mo_grow_23 : decode b_Mo_grow 23 = .ok (.aload_n 1, 1) := by decide +kernel
theorem d_Mo_grow_24 : decode b_Mo_grow 24 = .ok (.iload 6, 2) := by decide +kernel
theorem d_Mo_grow_26 : decode b_Mo_grow 26 = .ok (.iaload, 1) := by decide +kernel
theorem d_Mo_grow_27 : decode b_Mo_grow 27 = .ok (.iload_n 2, 1) := by decide +kernel
theorem d_Mo_grow_28 : decode b_Mo_grow 28 = .ok (.imul, 1) := by decide +kernel
theorem d_Mo_grow_29 : decode b_Mo_grow 29 = .ok (.iload 5, 2) := by decide +kernel
theorem d_Mo_grow_31 : decode b_Mo_grow 31 = .ok (.iadd, 1) := by decide +kernel
theorem d_Mo_grow_32 : decode b_Mo_grow 32 = .ok (.istore 7, 2) := by decide +kernel
theorem d_Mo_grow_34 : decode b_Mo_grow 34 = .ok (.aload_n 1, 1) := by decide +kernel
theorem d_Mo_grow_35 : decode b_Mo_grow 35 = .ok (.iload 6, 2) := by decide +kernel
theorem d_Mo_grow_37 : decode b_Mo_grow 37 = .ok (.iload 7, 2) := by decide +kernel
theorem d_Mo_grow_39 : decode b_Mo_grow 39 = .ok (.bipush 10, 2) := by decide +kernel
theorem d_Mo_grow_41 : decode b_Mo_grow 41 = .ok (.irem, 1) := by decide +kernel
theorem d_Mo_grow_42 : decode b_Mo_grow 42 = .ok (.iastore, 1) := by decide +kernel
theorem d_Mo_grow_43 : decode b_Mo_grow 43 = .ok (.iload 7, 2) := by decide +kernel
theorem d_Mo_grow_45 : decode b_Mo_grow 45 = .ok (.bipush 10, 2) := by decide +kernel
theorem d_Mo_grow_47 : decode b_Mo_grow 47 = .ok (.idiv, 1) := by decide +kernel
theorem d_Mo_grow_48 : decode b_Mo_grow 48 = .ok (.istore 5, 2) := by decide +kernel
theorem d_Mo_grow_50 : decode b_Mo_grow 50 = .ok (.iinc 6 1, 3) := by decide +kernel
theorem d_Mo_grow_53 : decode b_Mo_grow 53 = .ok (.goto (-38), 3) := by decide +kernel
theorem d_Mo_grow_56 : decode b_Mo_grow 56 = .ok (.iinc 4 1, 3) := by decide +kernel
theorem d_Mo_grow_59 : decode b_Mo_grow 59 = .ok (.goto (-56), 3) := by decide +kernel
theorem d_Mo_grow_62 : decode b_Mo_grow 62 = .ok (.return_, 1) := by decide +kernel
theorem d_Mo_isAtMost_0 : decode b_Mo_isAtMost 0 = .ok (.sipush 239, 3) := by decide +kernel
theorem d_Mo_isAtMost_3 : decode b_Mo_isAtMost 3 = .ok (.istore_n 1, 1) := by decide +kernel
theorem d_Mo_isAtMost_4 : decode b_Mo_isAtMost 4 = .ok (.iload_n 1, 1) := by decide +kernel
theorem d_Mo_isAtMost_5 : decode b_Mo_isAtMost 5 = .ok (.ifCond .le 24, 3) := by decide +kernel
theorem d_Mo_isAtMost_8 : decode b_Mo_isAtMost 8 = .ok (.aload_n 0, 1) := by decide +kernel
theorem d_Mo_isAtMost_9 : decode b_Mo_isAtMost 9 = .ok (.getfield 128, 3) := by decide +kernel
theorem d_Mo_isAtMost_12 : decode b_Mo_isAtMost 12 = .ok (.iload_n 1, 1) := by decide +kernel
theorem d_Mo_isAtMost_13 : decode b_Mo_isAtMost 13 = .ok (.iaload, 1) := by decide +kernel
theorem d_Mo_isAtMost_14 : decode b_Mo_isAtMost 14 = .ok (.aload_n 0, 1) := by decide +kernel
theorem d_Mo_isAtMost_15 : decode b_Mo_isAtMost 15 = .ok (.getfield 131, 3) := by decide +kernel
theorem d_Mo_isAtMost_18 : decode b_Mo_isAtMost 18 = .ok (.iload_n 1, 1) := by decide +kernel
theorem d_Mo_isAtMost_19 : decode b_Mo_isAtMost 19 = .ok (.iaload, 1) := by decide +kernel
theorem d_Mo_isAtMost_20 : decode b_Mo_isAtMost 20 = .ok (.if_icmp .ne 9, 3) := by decide +kernel
theorem d_Mo_isAtMost_23 : decode b_Mo_isAtMost 23 = .ok (.iinc 1 (-1), 3) := by decide +kernel
theorem d_Mo_isAtMost_26 : decode b_Mo_isAtMost 26 = .ok (.goto (-22), 3) := by decide +kernel
theorem d_Mo_isAtMost_29 : decode b_Mo_isAtMost 29 = .ok (.aload_n 0, 1) := by decide +kernel
theorem d_Mo_isAtMost_30 : decode b_Mo_isAtMost 30 = .ok (.getfield 128, 3) := by decide +kernel
theorem d_Mo_isAtMost_33 : decode b_Mo_isAtMost 33 = .ok (.iload_n 1, 1) := by decide +kernel
theorem d_Mo_isAtMost_34 : decode b_Mo_isAtMost 34 = .ok (.iaload, 1) := by decide +kernel
theorem d_Mo_isAtMost_35 : decode b_Mo_isAtMost 35 = .ok (.aload_n 0, 1) := by decide +kernel
theorem d_Mo_isAtMost_36 : decode b_Mo_isAtMost 36 = .ok (.getfield 131, 3) := by decide +kernel
theorem d_Mo_isAtMost_39 : decode b_Mo_isAtMost 39 = .ok (.iload_n 1, 1) := by decide +kernel
theorem d_Mo_isAtMost_40 : decode b_Mo_isAtMost 40 = .ok (.iaload, 1) := by decide +kernel
theorem d_Mo_isAtMost_41 : decode b_Mo_isAtMost 41 = .ok (.if_icmp .gt 7, 3) := by decide +kernel
theorem d_Mo_isAtMost_44 : decode b_Mo_isAtMost 44 = .ok (.iconst 1, 1) := by decide +kernel
theorem d_Mo_isAtMost_45 : decode b_Mo_isAtMost 45 = .ok (.goto 4, 3) := by decide +kernel
theorem d_Mo_isAtMost_48 : decode b_Mo_isAtMost 48 = .ok (.iconst 0, 1) := by decide +kernel
theorem d_Mo_isAtMost_49 : decode b_Mo_isAtMost 49 = .ok (.ireturn, 1) := by decide +kernel
theorem k_194 : (.fieldLink R_Mo 128 "PrivateQueriesModel" "one" "[I" : Cond) ∈ wG := wGm 1027 (by decide +kernel) (by decide +kernel)
theorem k_195 : (.fieldLink R_Mo 131 "PrivateQueriesModel" "two" "[I" : Cond) ∈ wG := wGm 1028 (by decide +kernel) (by decide +kernel)
theorem gr_mu {i : Int32} (h : ¬ 240 ≤ i) : (240 - (i + 1).toInt).toNat < (240 - i.toInt).toNat := by
  rw [Int32.le_iff_toInt_le, show (240 : Int32).toInt = 240 by decide] at h
  rw [i32_succ (by omega)]
  omega
set_option maxHeartbeats 4000000 in
set_option maxRecDepth 100000 in
theorem c_Mo_begin (l : Launch) (G : GG) (h : Nat) (nua : Nat) (nuf : Nat → Int32) : Det l G y_Mo_begin w_Mo_begin (rmD 0) 0 0 [.ref h, .ref nua] [(nua, .inl (gI G, 240, .inl nuf))] none [(nua, .inl (gI G, 240, .inl (lp_Mo_begin_2 (((240 - (0 : Int32).toInt).toNat) + 1) (0 : Int32) nuf)))] := by
  refine Det.of (cc := b_Mo_begin) (maxL := 3) (ret := none) (by decide) rfl (Nat.le_of_ble_eq_true rfl) ?_
  intro p e s m args below meth c A ls hx hb hr hml hown hts hlocks hin hA hK hZ hP hD hS hl
  have hts : ∀ w ∈ wG, w.before args s = true := fun w h => hts w (List.mem_cons_of_mem _ h)
  have hown : s.vm.findClass R_Mo = some m.cls := hown
  have loop_2 : ∀ (n : Nat) (i : Int32) (g : Nat → Int32), up i 240 → (240 - i.toInt).toNat < n → ∀ (H : Heap) (locs : List Loc) (ls : Array Slot), va_P G.1 classes [(nua, .inl (gI G, 240, .inl g))] H → va_D A [(nua, .inl (gI G, 240, .inl g))] → va_S A s.heap H locs → lv_has ls 3 [(2, .int i), (0, .ref h), (1, .ref nua)] → W p l e (rmD 0) s m args below meth c H locs 0 0 (MQ below (ly_Q G A none [(nua, .inl (gI G, 240, .inl (lp_Mo_begin_2 n i g)))]) args s 0 0 A) (F0 m 2 ls []) := by
    intro n
    induction n with
    | zero => intro i g hi hmu; exact absurd hmu (Nat.not_lt_zero _)
    | succ n ih =>
      intro i g hi hmu H locs ls hP hD hS hl
      refine lv_iload_n hx hb d_Mo_begin_2 rfl (lv_at hl 0 rfl) ?_
      refine lv_sipush (v := 240) hx hb d_Mo_begin_3 (by decide) ?_
      refine lv_icmp_ge (tgt := 19) hx hb d_Mo_begin_6 (by decide) (fun c1 => ?_) (fun c1 => ?_)
      · skip
        refine lv_aload_n hx hb d_Mo_begin_19 rfl (lv_at hl 2 rfl) ?_
        refine lv_iconst (v := 0) hx hb d_Mo_begin_20 (by decide) ?_
        refine lv_iconst (v := 1) hx hb d_Mo_begin_21 (by decide) ?_
        refine va_iast hx hb hK hP hD hS 0 0 rfl rfl (ly_mk (by decide) (by decide)) d_Mo_begin_22 (fun H locs hP hD hS => ?_)
        have hP : va_P G.1 classes [(nua, .inl (gI G, 240, .inl (upd g (0 : Int32).toNatClampNeg 1)))] H := hP
        have hD : va_D A [(nua, .inl (gI G, 240, .inl (upd g (0 : Int32).toNatClampNeg 1)))] := hD
        exact ly_vret hx hb hr hlocks hP hD hS d_Mo_begin_23 rfl (by rw [lp_Mo_begin_2, if_pos c1])
      refine lv_aload_n hx hb d_Mo_begin_9 rfl (lv_at hl 2 rfl) ?_
      refine lv_iload_n hx hb d_Mo_begin_10 rfl (lv_at hl 0 rfl) ?_
      refine lv_iconst (v := 0) hx hb d_Mo_begin_11 (by decide) ?_
      refine va_iast hx hb hK hP hD hS 0 0 rfl rfl (ly_mk hi.1 (ly_hi (by decide) c1)) d_Mo_begin_12 (fun H locs hP hD hS => ?_)
      have hP : va_P G.1 classes [(nua, .inl (gI G, 240, .inl (upd g i.toNatClampNeg 0)))] H := hP
      have hD : va_D A [(nua, .inl (gI G, 240, .inl (upd g i.toNatClampNeg 0)))] := hD
      refine lv_iinc (v := i + 1) (lv' := [(2, .int (i + 1)), (0, .ref h), (1, .ref nua)]) hx hb d_Mo_begin_13 hl (k := 0) rfl (by rfl) (by decide) rfl (fun ls hl => ?_)
      refine lv_goto (tgt := 2) hx hb d_Mo_begin_16 (by decide) ?_
      have e_ : (lp_Mo_begin_2 (n + 1) i g) = (lp_Mo_begin_2 n (i + 1) (upd g i.toNatClampNeg 0)) := (by rw [lp_Mo_begin_2, if_neg c1])
      rw [e_]
      exact ih (i + 1) (upd g i.toNatClampNeg 0) (up_add1 hi (by decide) c1) (mu_step (gr_mu c1) hmu) _ _ _ hP hD hS (lv_sub hl [0, 1, 2] rfl)
  have hl : lv_has ls 3 [(0, .ref h), (1, .ref nua)] := hl
  refine lv_iconst (v := 0) hx hb d_Mo_begin_0 (by decide) ?_
  refine lv_istore_n (lv' := [(2, .int 0), (0, .ref h), (1, .ref nua)]) hx hb d_Mo_begin_1 rfl hl (by decide) rfl (fun ls hl => ?_)
  exact loop_2 (((240 - (0 : Int32).toInt).toNat) + 1) (0 : Int32) nuf ⟨by decide, by decide⟩ (Nat.lt_succ_self _) _ _ _ hP hD hS (lv_sub hl [0, 1, 2] rfl)

set_option maxHeartbeats 4000000 in
set_option maxRecDepth 100000 in
theorem c_Mo_grow (l : Launch) (G : GG) (h : Nat) (nua : Nat) (nuf : Nat → Int32) (x : Int32) (z : Int32) : Det l G y_Mo_grow w_Mo_grow (rmD 0) 0 0 [.ref h, .ref nua, .int x, .int z] [(nua, .inl (gI G, 240, .inl nuf))] none [(nua, .inl (gI G, 240, .inl (lp_Mo_grow_3 x z (((z.toInt - (0 : Int32).toInt).toNat) + 1) (0 : Int32) nuf)))] := by
  refine Det.of (cc := b_Mo_grow) (maxL := 8) (ret := none) (by decide) rfl (Nat.le_of_ble_eq_true rfl) ?_
  intro p e s m args below meth c A ls hx hb hr hml hown hts hlocks hin hA hK hZ hP hD hS hl
  have hts : ∀ w ∈ wG, w.before args s = true := fun w h => hts w (List.mem_cons_of_mem _ h)
  have hown : s.vm.findClass R_Mo = some m.cls := hown
  have loop_15 : ∀ (Q : State → Prop) (t : Int32) (g : Nat → Int32) (n : Nat) (k : Int32) (i : Int32) (f : Nat → Int32), up i 240 → (240 - i.toInt).toNat < n → ∀ (H : Heap) (locs : List Loc) (ls : Array Slot), va_P G.1 classes [(nua, .inl (gI G, 240, .inl f))] H → va_D A [(nua, .inl (gI G, 240, .inl f))] → va_S A s.heap H locs → lv_has ls 8 [(6, .int i), (5, .int k), (4, .int t), (0, .ref h), (1, .ref nua), (2, .int x), (3, .int z)] → (∀ (H : Heap) (locs : List Loc) (ls : Array Slot), up ((lp_Mo_grow_15 x n k i f).2.1) 240 → va_P G.1 classes [(nua, .inl (gI G, 240, .inl ((lp_Mo_grow_15 x n k i f).2.2)))] H → va_D A [(nua, .inl (gI G, 240, .inl ((lp_Mo_grow_15 x n k i f).2.2)))] → va_S A s.heap H locs → lv_has ls 8 [(6, .int ((lp_Mo_grow_15 x n k i f).2.1)), (5, .int ((lp_Mo_grow_15 x n k i f).1)), (4, .int t), (0, .ref h), (1, .ref nua), (2, .int x), (3, .int z)] → W p l e (rmD 0) s m args below meth c H locs 0 0 Q (F0 m 56 ls [])) → W p l e (rmD 0) s m args below meth c H locs 0 0 Q (F0 m 15 ls []) := by
    intro Q
    intro t g
    intro n
    induction n with
    | zero => intro k i f hi hmu; exact absurd hmu (Nat.not_lt_zero _)
    | succ n ih =>
      intro k i f hi hmu H locs ls hP hD hS hl kk
      refine lv_iload hx hb d_Mo_grow_15 (lv_at hl 0 rfl) ?_
      refine lv_sipush (v := 240) hx hb d_Mo_grow_17 (by decide) ?_
      refine lv_icmp_ge (tgt := 56) hx hb d_Mo_grow_20 (by decide) (fun c1 => ?_) (fun c1 => ?_)
      · skip
        have e_ : (lp_Mo_grow_15 x (n + 1) k i f) = (k, i, f) := (by rw [lp_Mo_grow_15, if_pos c1])
        rw [e_] at kk
        exact kk _ _ _ hi hP hD hS (lv_sub hl [0, 1, 2, 3, 4, 5, 6] rfl)
      refine lv_aload_n hx hb d_Mo_grow_23 rfl (lv_at hl 4 rfl) ?_
      refine lv_iload hx hb d_Mo_grow_24 (lv_at hl 0 rfl) ?_
      refine va_iald hx hb hK hP 0 0 rfl rfl (ly_mk hi.1 (ly_hi (by decide) c1)) d_Mo_grow_26 ?_
      refine lv_iload_n hx hb d_Mo_grow_27 rfl (lv_at hl 5 rfl) ?_
      refine lv_imul hx hb d_Mo_grow_28 ?_
      refine lv_iload hx hb d_Mo_grow_29 (lv_at hl 1 rfl) ?_
      refine lv_iadd hx hb d_Mo_grow_31 ?_
      refine lv_istore (lv' := [(7, .int (((f i.toNatClampNeg) * x) + k)), (6, .int i), (5, .int k), (4, .int t), (0, .ref h), (1, .ref nua), (2, .int x), (3, .int z)]) hx hb d_Mo_grow_32 hl (by decide) rfl (fun ls hl => ?_)
      refine lv_aload_n hx hb d_Mo_grow_34 rfl (lv_at hl 5 rfl) ?_
      refine lv_iload hx hb d_Mo_grow_35 (lv_at hl 1 rfl) ?_
      refine lv_iload hx hb d_Mo_grow_37 (lv_at hl 0 rfl) ?_
      refine lv_bipush (v := 10) hx hb d_Mo_grow_39 (by decide) ?_
      refine lv_irem hx hb d_Mo_grow_41 (by decide) ?_
      refine va_iast hx hb hK hP hD hS 0 0 rfl rfl (ly_mk hi.1 (ly_hi (by decide) c1)) d_Mo_grow_42 (fun H locs hP hD hS => ?_)
      have hP : va_P G.1 classes [(nua, .inl (gI G, 240, .inl (upd f i.toNatClampNeg ((((f i.toNatClampNeg) * x) + k) - (((f i.toNatClampNeg) * x) + k) / 10 * 10))))] H := hP
      have hD : va_D A [(nua, .inl (gI G, 240, .inl (upd f i.toNatClampNeg ((((f i.toNatClampNeg) * x) + k) - (((f i.toNatClampNeg) * x) + k) / 10 * 10))))] := hD
      refine lv_iload hx hb d_Mo_grow_43 (lv_at hl 0 rfl) ?_
      refine lv_bipush (v := 10) hx hb d_Mo_grow_45 (by decide) ?_
      refine lv_idiv hx hb d_Mo_grow_47 (by decide) ?_
      refine lv_istore (lv' := [(5, .int ((((f i.toNatClampNeg) * x) + k) / 10)), (7, .int (((f i.toNatClampNeg) * x) + k)), (6, .int i), (4, .int t), (0, .ref h), (1, .ref nua), (2, .int x), (3, .int z)]) hx hb d_Mo_grow_48 hl (by decide) rfl (fun ls hl => ?_)
      refine lv_iinc (v := i + 1) (lv' := [(6, .int (i + 1)), (5, .int ((((f i.toNatClampNeg) * x) + k) / 10)), (7, .int (((f i.toNatClampNeg) * x) + k)), (4, .int t), (0, .ref h), (1, .ref nua), (2, .int x), (3, .int z)]) hx hb d_Mo_grow_50 hl (k := 2) rfl (by rfl) (by decide) rfl (fun ls hl => ?_)
      refine lv_goto (tgt := 15) hx hb d_Mo_grow_53 (by decide) ?_
      have e_ : (lp_Mo_grow_15 x (n + 1) k i f) = (lp_Mo_grow_15 x n ((((f i.toNatClampNeg) * x) + k) / 10) (i + 1) (upd f i.toNatClampNeg ((((f i.toNatClampNeg) * x) + k) - (((f i.toNatClampNeg) * x) + k) / 10 * 10))) := (by rw [lp_Mo_grow_15, if_neg c1])
      rw [e_] at kk
      exact ih ((((f i.toNatClampNeg) * x) + k) / 10) (i + 1) (upd f i.toNatClampNeg ((((f i.toNatClampNeg) * x) + k) - (((f i.toNatClampNeg) * x) + k) / 10 * 10)) (up_add1 hi (by decide) c1) (mu_step (gr_mu c1) hmu) _ _ _ hP hD hS (lv_sub hl [0, 1, 3, 4, 5, 6, 7] rfl) kk
  have loop_3 : ∀ (n : Nat) (t : Int32) (g : Nat → Int32), (z.toInt - t.toInt).toNat < n → ∀ (H : Heap) (locs : List Loc) (ls : Array Slot), va_P G.1 classes [(nua, .inl (gI G, 240, .inl g))] H → va_D A [(nua, .inl (gI G, 240, .inl g))] → va_S A s.heap H locs → lv_has ls 8 [(4, .int t), (0, .ref h), (1, .ref nua), (2, .int x), (3, .int z)] → W p l e (rmD 0) s m args below meth c H locs 0 0 (MQ below (ly_Q G A none [(nua, .inl (gI G, 240, .inl (lp_Mo_grow_3 x z n t g)))]) args s 0 0 A) (F0 m 3 ls []) := by
    intro n
    induction n with
    | zero => intro t g  hmu; exact absurd hmu (Nat.not_lt_zero _)
    | succ n ih =>
      intro t g  hmu H locs ls hP hD hS hl
      refine lv_iload hx hb d_Mo_grow_3 (lv_at hl 0 rfl) ?_
      refine lv_iload_n hx hb d_Mo_grow_5 rfl (lv_at hl 4 rfl) ?_
      refine lv_icmp_ge (tgt := 62) hx hb d_Mo_grow_6 (by decide) (fun c1 => ?_) (fun c1 => ?_)
      · skip
        exact ly_vret hx hb hr hlocks hP hD hS d_Mo_grow_62 rfl (by rw [lp_Mo_grow_3, if_pos c1])
      refine lv_iconst (v := 0) hx hb d_Mo_grow_9 (by decide) ?_
      refine lv_istore (lv' := [(5, .int 0), (4, .int t), (0, .ref h), (1, .ref nua), (2, .int x), (3, .int z)]) hx hb d_Mo_grow_10 hl (by decide) rfl (fun ls hl => ?_)
      refine lv_iconst (v := 0) hx hb d_Mo_grow_12 (by decide) ?_
      refine lv_istore (lv' := [(6, .int 0), (5, .int 0), (4, .int t), (0, .ref h), (1, .ref nua), (2, .int x), (3, .int z)]) hx hb d_Mo_grow_13 hl (by decide) rfl (fun ls hl => ?_)
      obtain ⟨r1, hr1⟩ : ∃ r, (lp_Mo_grow_15 x (((240 - (0 : Int32).toInt).toNat) + 1) (0 : Int32) (0 : Int32) g) = r := ⟨_, rfl⟩
      refine loop_15 _ t g (((240 - (0 : Int32).toInt).toNat) + 1) (0 : Int32) (0 : Int32) g ⟨by decide, by decide⟩ (Nat.lt_succ_self _) _ _ _ hP hD hS (lv_sub hl [0, 1, 2, 3, 4, 5, 6] rfl) (fun H locs ls hx_r1_hi hP hD hS hl => ?_)
      try rw [hr1] at hx_r1_hi
      try rw [hr1] at hP
      try rw [hr1] at hD
      try rw [hr1] at hl
      have hP : va_P G.1 classes [(nua, .inl (gI G, 240, .inl r1.2.2))] H := hP
      have hD : va_D A [(nua, .inl (gI G, 240, .inl r1.2.2))] := hD
      have hl : lv_has ls 8 [(6, .int r1.2.1), (5, .int r1.1), (4, .int t), (0, .ref h), (1, .ref nua), (2, .int x), (3, .int z)] := hl
      refine lv_iinc (v := t + 1) (lv' := [(4, .int (t + 1)), (6, .int r1.2.1), (5, .int r1.1), (0, .ref h), (1, .ref nua), (2, .int x), (3, .int z)]) hx hb d_Mo_grow_56 hl (k := 2) rfl (by rfl) (by decide) rfl (fun ls hl => ?_)
      refine lv_goto (tgt := 3) hx hb d_Mo_grow_59 (by decide) ?_
      have e_ : (lp_Mo_grow_3 x z (n + 1) t g) = (lp_Mo_grow_3 x z n (t + 1) r1.2.2) := (by rw [lp_Mo_grow_3] <;> simp only [hr1] <;> rw [if_neg c1])
      rw [e_]
      exact ih (t + 1) r1.2.2 (mu_step (mu_up c1) hmu) _ _ _ hP hD hS (lv_sub hl [0, 3, 4, 5, 6] rfl)
  have hl : lv_has ls 8 [(0, .ref h), (1, .ref nua), (2, .int x), (3, .int z)] := hl
  refine lv_iconst (v := 0) hx hb d_Mo_grow_0 (by decide) ?_
  refine lv_istore (lv' := [(4, .int 0), (0, .ref h), (1, .ref nua), (2, .int x), (3, .int z)]) hx hb d_Mo_grow_1 hl (by decide) rfl (fun ls hl => ?_)
  exact loop_3 (((z.toInt - (0 : Int32).toInt).toNat) + 1) (0 : Int32) nuf (Nat.lt_succ_self _) _ _ _ hP hD hS (lv_sub hl [0, 1, 2, 3, 4] rfl)

theorem am_i {i : Int32} (h : ¬ i ≤ 0) (hi : up i 239) : up (i + (-1)) 239 := by
  rw [Int32.le_iff_toInt_le, i0] at h
  have h2 := hi.2
  unfold up
  rw [i32_pred hi.1]
  omega
theorem am_mu {i : Int32} (h : ¬ i ≤ 0) : (i + (-1)).toInt.toNat < i.toInt.toNat := by
  rw [Int32.le_iff_toInt_le, i0] at h
  rw [i32_pred (by omega)]
  omega
theorem am_in {i : Int32} (hi : up i 239) : vp_in i 240 := ly_mk hi.1 (by have := hi.2; omega)
theorem zl_Mo_isAtMost {f_one : Nat → Int32} {f_two : Nat → Int32} : ∀ {n : Nat} {i : Int32}, isB (lp_Mo_isAtMost f_one f_two n i) := by
  intro n
  induction n with
  | zero => intro i; unfold lp_Mo_isAtMost; exact isB_0
  | succ n ih =>
    intro i
    rw [lp_Mo_isAtMost]
    by_cases ct1 : i ≤ 0
    · rw [if_pos ct1]
      by_cases ct2 : (f_two i.toNatClampNeg) < (f_one i.toNatClampNeg)
      · rw [if_pos ct2]
        first | exact isB_0 | exact isB_1 | exact ih | assumption
      rw [if_neg ct2]
      first | exact isB_0 | exact isB_1 | exact ih | assumption
    rw [if_neg ct1]
    by_cases ct3 : (f_one i.toNatClampNeg) = (f_two i.toNatClampNeg)
    · rw [if_pos ct3]
      first | exact isB_0 | exact isB_1 | exact ih | assumption
    rw [if_neg ct3]
    by_cases ct4 : (f_two i.toNatClampNeg) < (f_one i.toNatClampNeg)
    · rw [if_pos ct4]
      first | exact isB_0 | exact isB_1 | exact ih | assumption
    rw [if_neg ct4]
    first | exact isB_0 | exact isB_1 | exact ih | assumption
set_option maxHeartbeats 4000000 in
set_option maxRecDepth 100000 in
theorem c_Mo_isAtMost (l : Launch) (G : GG) (h : Nat) (a_table : Nat) (a_tape : Nat) (a_budget : Nat) (a_spent : Nat) (a_text : Nat) (a_kinds : Nat) (a_values : Nat) (a_scriptKinds : Nat) (a_scriptValues : Nat) (a_isTold : Nat) (a_letOf : Nat) (a_code : Nat) (a_letEnd : Nat) (a_letBegin : Nat) (a_sort : Nat) (a_column : Nat) (a_low : Nat) (a_high : Nat) (a_by : Nat) (a_top : Nat) (a_begins : Nat) (a_ends : Nat) (a_scriptCode : Nat) (a_scriptLetBegin : Nat) (a_scriptLetEnd : Nat) (a_aSort : Nat) (a_aColumn : Nat) (a_aLow : Nat) (a_aHigh : Nat) (a_aBy : Nat) (a_aTop : Nat) (a_aBegin : Nat) (a_anEnd : Nat) (a_told : Nat) (a_out : Nat) (a_goals : Nat) (a_withs : Nat) (a_pile : Nat) (a_letValue : Nat) (a_one : Nat) (a_two : Nat) (v_p : Int32) (v_q : Int32) (v_rows : Int32) (v_cells : Int32) (v_signs : Int32) (v_tokens : Int32) (v_scriptTokens : Int32) (v_at : Int32) (v_place : Int32) (v_kind : Int32) (v_value : Int32) (v_depth : Int32) (v_asked : Int32) (v_lets : Int32) (v_questions : Int32) (v_statements : Int32) (v_size : Int32) (v_hasScript : Int32) (v_scriptLets : Int32) (v_scriptQuestions : Int32) (v_toldCount : Int32) (v_outs : Int32) (v_goalCount : Int32) (f_one : Nat → Int32) (f_two : Nat → Int32) : Det l G y_Mo_isAtMost w_Mo_isAtMost (rmD 0) 0 0 [.ref h] [(h, .inr (12, .int v_p :: .int v_q :: .ref a_table :: .int v_rows :: .ref a_tape :: .int v_cells :: .ref a_budget :: .ref a_spent :: .ref a_text :: .int v_signs :: .ref a_kinds :: .ref a_values :: .int v_tokens :: .ref a_scriptKinds :: .ref a_scriptValues :: .int v_scriptTokens :: .int v_at :: .int v_place :: .int v_kind :: .int v_value :: .int v_depth :: .int v_asked :: .int v_lets :: .int v_questions :: .int v_statements :: .ref a_isTold :: .ref a_letOf :: .ref a_code :: .int v_size :: .ref a_letEnd :: .ref a_letBegin :: .ref a_sort :: .ref a_column :: .ref a_low :: .ref a_high :: .ref a_by :: .ref a_top :: .ref a_begins :: .ref a_ends :: .int v_hasScript :: .int v_scriptLets :: .int v_scriptQuestions :: .ref a_scriptCode :: .ref a_scriptLetBegin :: .ref a_scriptLetEnd :: .ref a_aSort :: .ref a_aColumn :: .ref a_aLow :: .ref a_aHigh :: .ref a_aBy :: .ref a_aTop :: .ref a_aBegin :: .ref a_anEnd :: .ref a_told :: .int v_toldCount :: .ref a_out :: .int v_outs :: .ref a_goals :: .ref a_withs :: .int v_goalCount :: .ref a_pile :: .ref a_letValue :: .ref a_one :: .ref a_two :: [])), (a_one, .inl (gI G, 240, .inl f_one)), (a_two, .inl (gI G, 240, .inl f_two))] (some (.int (lp_Mo_isAtMost f_one f_two (((239 : Int32).toInt.toNat) + 1) (239 : Int32)))) [(h, .inr (12, .int v_p :: .int v_q :: .ref a_table :: .int v_rows :: .ref a_tape :: .int v_cells :: .ref a_budget :: .ref a_spent :: .ref a_text :: .int v_signs :: .ref a_kinds :: .ref a_values :: .int v_tokens :: .ref a_scriptKinds :: .ref a_scriptValues :: .int v_scriptTokens :: .int v_at :: .int v_place :: .int v_kind :: .int v_value :: .int v_depth :: .int v_asked :: .int v_lets :: .int v_questions :: .int v_statements :: .ref a_isTold :: .ref a_letOf :: .ref a_code :: .int v_size :: .ref a_letEnd :: .ref a_letBegin :: .ref a_sort :: .ref a_column :: .ref a_low :: .ref a_high :: .ref a_by :: .ref a_top :: .ref a_begins :: .ref a_ends :: .int v_hasScript :: .int v_scriptLets :: .int v_scriptQuestions :: .ref a_scriptCode :: .ref a_scriptLetBegin :: .ref a_scriptLetEnd :: .ref a_aSort :: .ref a_aColumn :: .ref a_aLow :: .ref a_aHigh :: .ref a_aBy :: .ref a_aTop :: .ref a_aBegin :: .ref a_anEnd :: .ref a_told :: .int v_toldCount :: .ref a_out :: .int v_outs :: .ref a_goals :: .ref a_withs :: .int v_goalCount :: .ref a_pile :: .ref a_letValue :: .ref a_one :: .ref a_two :: [])), (a_one, .inl (gI G, 240, .inl f_one)), (a_two, .inl (gI G, 240, .inl f_two))] := by
  refine Det.of (cc := b_Mo_isAtMost) (maxL := 2) (ret := (some .boolean)) (by decide) rfl (Nat.le_of_ble_eq_true rfl) ?_
  intro p e s m args below meth c A ls hx hb hr hml hown hts hlocks hin hA hK hZ hP hD hS hl
  have hts : ∀ w ∈ wG, w.before args s = true := fun w h => hts w (List.mem_cons_of_mem _ h)
  have hown : s.vm.findClass R_Mo = some m.cls := hown
  have loop : ∀ (n : Nat) (i : Int32), up i 239 → i.toInt.toNat < n → ∀ (H : Heap) (locs : List Loc) (ls : Array Slot), va_P G.1 classes [(h, .inr (12, .int v_p :: .int v_q :: .ref a_table :: .int v_rows :: .ref a_tape :: .int v_cells :: .ref a_budget :: .ref a_spent :: .ref a_text :: .int v_signs :: .ref a_kinds :: .ref a_values :: .int v_tokens :: .ref a_scriptKinds :: .ref a_scriptValues :: .int v_scriptTokens :: .int v_at :: .int v_place :: .int v_kind :: .int v_value :: .int v_depth :: .int v_asked :: .int v_lets :: .int v_questions :: .int v_statements :: .ref a_isTold :: .ref a_letOf :: .ref a_code :: .int v_size :: .ref a_letEnd :: .ref a_letBegin :: .ref a_sort :: .ref a_column :: .ref a_low :: .ref a_high :: .ref a_by :: .ref a_top :: .ref a_begins :: .ref a_ends :: .int v_hasScript :: .int v_scriptLets :: .int v_scriptQuestions :: .ref a_scriptCode :: .ref a_scriptLetBegin :: .ref a_scriptLetEnd :: .ref a_aSort :: .ref a_aColumn :: .ref a_aLow :: .ref a_aHigh :: .ref a_aBy :: .ref a_aTop :: .ref a_aBegin :: .ref a_anEnd :: .ref a_told :: .int v_toldCount :: .ref a_out :: .int v_outs :: .ref a_goals :: .ref a_withs :: .int v_goalCount :: .ref a_pile :: .ref a_letValue :: .ref a_one :: .ref a_two :: [])), (a_one, .inl (gI G, 240, .inl f_one)), (a_two, .inl (gI G, 240, .inl f_two))] H → va_D A [(h, .inr (12, .int v_p :: .int v_q :: .ref a_table :: .int v_rows :: .ref a_tape :: .int v_cells :: .ref a_budget :: .ref a_spent :: .ref a_text :: .int v_signs :: .ref a_kinds :: .ref a_values :: .int v_tokens :: .ref a_scriptKinds :: .ref a_scriptValues :: .int v_scriptTokens :: .int v_at :: .int v_place :: .int v_kind :: .int v_value :: .int v_depth :: .int v_asked :: .int v_lets :: .int v_questions :: .int v_statements :: .ref a_isTold :: .ref a_letOf :: .ref a_code :: .int v_size :: .ref a_letEnd :: .ref a_letBegin :: .ref a_sort :: .ref a_column :: .ref a_low :: .ref a_high :: .ref a_by :: .ref a_top :: .ref a_begins :: .ref a_ends :: .int v_hasScript :: .int v_scriptLets :: .int v_scriptQuestions :: .ref a_scriptCode :: .ref a_scriptLetBegin :: .ref a_scriptLetEnd :: .ref a_aSort :: .ref a_aColumn :: .ref a_aLow :: .ref a_aHigh :: .ref a_aBy :: .ref a_aTop :: .ref a_aBegin :: .ref a_anEnd :: .ref a_told :: .int v_toldCount :: .ref a_out :: .int v_outs :: .ref a_goals :: .ref a_withs :: .int v_goalCount :: .ref a_pile :: .ref a_letValue :: .ref a_one :: .ref a_two :: [])), (a_one, .inl (gI G, 240, .inl f_one)), (a_two, .inl (gI G, 240, .inl f_two))] → va_S A s.heap H locs → lv_has ls 2 [(1, .int i), (0, .ref h)] → W p l e (rmD 0) s m args below meth c H locs 0 0 (MQ below (ly_Q G A (some (.int (lp_Mo_isAtMost f_one f_two n i))) [(h, .inr (12, .int v_p :: .int v_q :: .ref a_table :: .int v_rows :: .ref a_tape :: .int v_cells :: .ref a_budget :: .ref a_spent :: .ref a_text :: .int v_signs :: .ref a_kinds :: .ref a_values :: .int v_tokens :: .ref a_scriptKinds :: .ref a_scriptValues :: .int v_scriptTokens :: .int v_at :: .int v_place :: .int v_kind :: .int v_value :: .int v_depth :: .int v_asked :: .int v_lets :: .int v_questions :: .int v_statements :: .ref a_isTold :: .ref a_letOf :: .ref a_code :: .int v_size :: .ref a_letEnd :: .ref a_letBegin :: .ref a_sort :: .ref a_column :: .ref a_low :: .ref a_high :: .ref a_by :: .ref a_top :: .ref a_begins :: .ref a_ends :: .int v_hasScript :: .int v_scriptLets :: .int v_scriptQuestions :: .ref a_scriptCode :: .ref a_scriptLetBegin :: .ref a_scriptLetEnd :: .ref a_aSort :: .ref a_aColumn :: .ref a_aLow :: .ref a_aHigh :: .ref a_aBy :: .ref a_aTop :: .ref a_aBegin :: .ref a_anEnd :: .ref a_told :: .int v_toldCount :: .ref a_out :: .int v_outs :: .ref a_goals :: .ref a_withs :: .int v_goalCount :: .ref a_pile :: .ref a_letValue :: .ref a_one :: .ref a_two :: [])), (a_one, .inl (gI G, 240, .inl f_one)), (a_two, .inl (gI G, 240, .inl f_two))]) args s 0 0 A) (F0 m 4 ls []) := by
    intro n
    induction n with
    | zero => intro i hi hmu; exact absurd hmu (Nat.not_lt_zero _)
    | succ n ih =>
      intro i hi hmu H locs ls hP hD hS hl
      refine lv_iload_n hx hb d_Mo_isAtMost_4 rfl (lv_at hl 0 rfl) ?_
      refine lv_if_le (tgt := 29) hx hb d_Mo_isAtMost_5 (by decide) (fun c1 => ?_) (fun c1 => ?_)
      · skip
        refine lv_aload_n hx hb d_Mo_isAtMost_29 rfl (lv_at hl 1 rfl) ?_
        refine va_get (D := G.1) (ci := 12) (C := R_Mo) (T := F_Mo) (N := 64) (v := .ref a_one) hx hb hts i_Mo hown hK hP 0 rfl rfl 62 (by decide) (hts (.fieldLink R_Mo 128 "PrivateQueriesModel" "one" "[I") k_194) (fun _ h9 => h9) rfl d_Mo_isAtMost_30 ?_
        refine lv_iload_n hx hb d_Mo_isAtMost_33 rfl (lv_at hl 0 rfl) ?_
        refine va_iald hx hb hK hP 1 0 rfl rfl (am_in hi) d_Mo_isAtMost_34 ?_
        refine lv_aload_n hx hb d_Mo_isAtMost_35 rfl (lv_at hl 1 rfl) ?_
        refine va_get (D := G.1) (ci := 12) (C := R_Mo) (T := F_Mo) (N := 64) (v := .ref a_two) hx hb hts i_Mo hown hK hP 0 rfl rfl 63 (by decide) (hts (.fieldLink R_Mo 131 "PrivateQueriesModel" "two" "[I") k_195) (fun _ h9 => h9) rfl d_Mo_isAtMost_36 ?_
        refine lv_iload_n hx hb d_Mo_isAtMost_39 rfl (lv_at hl 0 rfl) ?_
        refine va_iald hx hb hK hP 2 0 rfl rfl (am_in hi) d_Mo_isAtMost_40 ?_
        refine lv_icmp_gt (tgt := 48) hx hb d_Mo_isAtMost_41 (by decide) (fun c2 => ?_) (fun c2 => ?_)
        · skip
          refine lv_iconst (v := 0) hx hb d_Mo_isAtMost_48 (by decide) ?_
          exact ly_zret hx hb hr hlocks hP hD hS d_Mo_isAtMost_49 (by decide) (by rw [lp_Mo_isAtMost, if_pos c1, if_pos c2]) rfl
        refine lv_iconst (v := 1) hx hb d_Mo_isAtMost_44 (by decide) ?_
        refine lv_goto (tgt := 49) hx hb d_Mo_isAtMost_45 (by decide) ?_
        exact ly_zret hx hb hr hlocks hP hD hS d_Mo_isAtMost_49 (by decide) (by rw [lp_Mo_isAtMost, if_pos c1, if_neg c2]) rfl
      refine lv_aload_n hx hb d_Mo_isAtMost_8 rfl (lv_at hl 1 rfl) ?_
      refine va_get (D := G.1) (ci := 12) (C := R_Mo) (T := F_Mo) (N := 64) (v := .ref a_one) hx hb hts i_Mo hown hK hP 0 rfl rfl 62 (by decide) (hts (.fieldLink R_Mo 128 "PrivateQueriesModel" "one" "[I") k_194) (fun _ h9 => h9) rfl d_Mo_isAtMost_9 ?_
      refine lv_iload_n hx hb d_Mo_isAtMost_12 rfl (lv_at hl 0 rfl) ?_
      refine va_iald hx hb hK hP 1 0 rfl rfl (am_in hi) d_Mo_isAtMost_13 ?_
      refine lv_aload_n hx hb d_Mo_isAtMost_14 rfl (lv_at hl 1 rfl) ?_
      refine va_get (D := G.1) (ci := 12) (C := R_Mo) (T := F_Mo) (N := 64) (v := .ref a_two) hx hb hts i_Mo hown hK hP 0 rfl rfl 63 (by decide) (hts (.fieldLink R_Mo 131 "PrivateQueriesModel" "two" "[I") k_195) (fun _ h9 => h9) rfl d_Mo_isAtMost_15 ?_
      refine lv_iload_n hx hb d_Mo_isAtMost_18 rfl (lv_at hl 0 rfl) ?_
      refine va_iald hx hb hK hP 2 0 rfl rfl (am_in hi) d_Mo_isAtMost_19 ?_
      refine lv_icmp_ne (tgt := 29) hx hb d_Mo_isAtMost_20 (by decide) (fun c3 => ?_) (fun c3 => ?_)
      · skip
        refine lv_aload_n hx hb d_Mo_isAtMost_29 rfl (lv_at hl 1 rfl) ?_
        refine va_get (D := G.1) (ci := 12) (C := R_Mo) (T := F_Mo) (N := 64) (v := .ref a_one) hx hb hts i_Mo hown hK hP 0 rfl rfl 62 (by decide) (hts (.fieldLink R_Mo 128 "PrivateQueriesModel" "one" "[I") k_194) (fun _ h9 => h9) rfl d_Mo_isAtMost_30 ?_
        refine lv_iload_n hx hb d_Mo_isAtMost_33 rfl (lv_at hl 0 rfl) ?_
        refine va_iald hx hb hK hP 1 0 rfl rfl (am_in hi) d_Mo_isAtMost_34 ?_
        refine lv_aload_n hx hb d_Mo_isAtMost_35 rfl (lv_at hl 1 rfl) ?_
        refine va_get (D := G.1) (ci := 12) (C := R_Mo) (T := F_Mo) (N := 64) (v := .ref a_two) hx hb hts i_Mo hown hK hP 0 rfl rfl 63 (by decide) (hts (.fieldLink R_Mo 131 "PrivateQueriesModel" "two" "[I") k_195) (fun _ h9 => h9) rfl d_Mo_isAtMost_36 ?_
        refine lv_iload_n hx hb d_Mo_isAtMost_39 rfl (lv_at hl 0 rfl) ?_
        refine va_iald hx hb hK hP 2 0 rfl rfl (am_in hi) d_Mo_isAtMost_40 ?_
        refine lv_icmp_gt (tgt := 48) hx hb d_Mo_isAtMost_41 (by decide) (fun c4 => ?_) (fun c4 => ?_)
        · skip
          refine lv_iconst (v := 0) hx hb d_Mo_isAtMost_48 (by decide) ?_
          exact ly_zret hx hb hr hlocks hP hD hS d_Mo_isAtMost_49 (by decide) (by rw [lp_Mo_isAtMost, if_neg c1, if_neg c3, if_pos c4]) rfl
        refine lv_iconst (v := 1) hx hb d_Mo_isAtMost_44 (by decide) ?_
        refine lv_goto (tgt := 49) hx hb d_Mo_isAtMost_45 (by decide) ?_
        exact ly_zret hx hb hr hlocks hP hD hS d_Mo_isAtMost_49 (by decide) (by rw [lp_Mo_isAtMost, if_neg c1, if_neg c3, if_neg c4]) rfl
      refine lv_iinc (v := i + (-1)) (lv' := [(1, .int (i + (-1))), (0, .ref h)]) hx hb d_Mo_isAtMost_23 hl (k := 0) rfl (by rfl) (by decide) rfl (fun ls hl => ?_)
      refine lv_goto (tgt := 4) hx hb d_Mo_isAtMost_26 (by decide) ?_
      have e_ : lp_Mo_isAtMost f_one f_two (n + 1) i = lp_Mo_isAtMost f_one f_two n (i + (-1)) := (by rw [lp_Mo_isAtMost, if_neg c1, if_pos c3])
      rw [e_]
      exact ih (i + (-1)) (am_i c1 hi) (mu_step (am_mu c1) hmu) _ _ _ hP hD hS (lv_sub hl [0, 1] rfl)
  have hl : lv_has ls 2 [(0, .ref h)] := hl
  refine lv_sipush (v := 239) hx hb d_Mo_isAtMost_0 (by decide) ?_
  refine lv_istore_n (lv' := [(1, .int 239), (0, .ref h)]) hx hb d_Mo_isAtMost_3 rfl hl (by decide) rfl (fun ls hl => ?_)
  exact loop (((239 : Int32).toInt.toNat) + 1) (239 : Int32) ⟨by decide, by decide⟩ (Nat.lt_succ_self _) _ _ _ hP hD hS (lv_sub hl [0, 1] rfl)
