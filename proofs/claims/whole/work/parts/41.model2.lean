theorem d_Mo_draws_0 : decode b_Mo_draws 0 = .ok (.iload_n 2, 1) := by decide +kernel
theorem d_Mo_draws_1 : decode b_Mo_draws 1 = .ok (.iconst (-1), 1) := by decide +kernel
theorem d_Mo_draws_2 : decode b_Mo_draws 2 = .ok (.if_icmp .eq 7, 3) := by decide +kernel
theorem d_Mo_draws_5 : decode b_Mo_draws 5 = .ok (.iconst 1, 1) := by decide +kernel
theorem d_Mo_draws_6 : decode b_Mo_draws 6 = .ok (.goto 4, 3) := by decide +kernel
theorem d_Mo_draws_9 : decode b_Mo_draws 9 = .ok (.iconst 0, 1) := by decide +kernel
theorem d_Mo_draws_10 : decode b_Mo_draws 10 = .ok (.istore_n 3, 1) := by decide +kernel
theorem d_Mo_draws_11 : decode b_Mo_draws 11 = .ok (.aload_n 0, 1) := by decide +kernel
theorem d_Mo_draws_12 : decode b_Mo_draws 12 = .ok (.iload_n 1, 1) := by decide +kernel
theorem d_Mo_draws_13 : decode b_Mo_draws 13 = .ok (.invokevirtual 148, 3) := by decide +kernel
theorem d_Mo_draws_16 : decode b_Mo_draws 16 = .ok (.ifCond .eq 15, 3) := by decide +kernel
theorem d_Mo_draws_19 : decode b_Mo_draws 19 = .ok (.iload_n 3, 1) := by decide +kernel
theorem d_Mo_draws_20 : decode b_Mo_draws 20 = .ok (.ifCond .eq 14, 3) := by decide +kernel
theorem d_Mo_draws_23 : decode b_Mo_draws 23 = .ok (.aload_n 0, 1) := by decide +kernel
theorem d_Mo_draws_24 : decode b_Mo_draws 24 = .ok (.iload_n 2, 1) := by decide +kernel
theorem d_Mo_draws_25 : decode b_Mo_draws 25 = .ok (.invokevirtual 148, 3) := by decide +kernel
theorem d_Mo_draws_28 : decode b_Mo_draws 28 = .ok (.ifCond .ne 6, 3) := by decide +kernel
theorem d_Mo_draws_31 : decode b_Mo_draws 31 = .ok (.bipush (-102), 2) := by decide +kernel
theorem d_Mo_draws_33 : decode b_Mo_draws 33 = .ok (.ireturn, 1) := by decide +kernel
theorem d_Mo_draws_34 : decode b_Mo_draws 34 = .ok (.aload_n 0, 1) := by decide +kernel
theorem d_Mo_draws_35 : decode b_Mo_draws 35 = .ok (.getfield 152, 3) := by decide +kernel
theorem d_Mo_draws_38 : decode b_Mo_draws 38 = .ok (.iload_n 3, 1) := by decide +kernel
theorem d_Mo_draws_39 : decode b_Mo_draws 39 = .ok (.ifCond .eq 7, 3) := by decide +kernel
theorem d_Mo_draws_42 : decode b_Mo_draws 42 = .ok (.iconst 2, 1) := by decide +kernel
theorem d_Mo_draws_43 : decode b_Mo_draws 43 = .ok (.goto 4, 3) := by decide +kernel
theorem d_Mo_draws_46 : decode b_Mo_draws 46 = .ok (.iconst 1, 1) := by decide +kernel
theorem d_Mo_draws_47 : decode b_Mo_draws 47 = .ok (.iadd, 1) := by decide +kernel
theorem d_Mo_draws_48 : decode b_Mo_draws 48 = .ok (.sipush 3000, 3) := by decide +kernel
theorem d_Mo_draws_51 : decode b_Mo_draws 51 = .ok (.if_icmp .le 6, 3) := by decide +kernel
theorem d_Mo_draws_54 : decode b_Mo_draws 54 = .ok (.bipush (-106), 2) := by decide +kernel
theorem d_Mo_draws_56 : decode b_Mo_draws 56 = .ok (.ireturn, 1) := by decide +kernel
theorem d_Mo_draws_57 : decode b_Mo_draws 57 = .ok (.aload_n 0, 1) := by decide +kernel
theorem d_Mo_draws_58 : decode b_Mo_draws 58 = .ok (.getfield 13, 3) := by decide +kernel
theorem d_Mo_draws_61 : decode b_Mo_draws 61 = .ok (.aload_n 0, 1) := by decide +kernel
theorem d_Mo_draws_62 : decode b_Mo_draws 62 = .ok (.getfield 152, 3) := by decide +kernel
theorem d_Mo_draws_65 : decode b_Mo_draws 65 = .ok (.iload_n 1, 1) := by decide +kernel
theorem d_Mo_draws_66 : decode b_Mo_draws 66 = .ok (.iastore, 1) := by decide +kernel
theorem d_Mo_draws_67 : decode b_Mo_draws 67 = .ok (.aload_n 0, 1) := by decide +kernel
theorem d_Mo_draws_68 : decode b_Mo_draws 68 = .ok (.dup, 1) := by decide +kernel
theorem d_Mo_draws_69 : decode b_Mo_draws 69 = .ok (.getfield 152, 3) := by decide +kernel
theorem d_Mo_draws_72 : decode b_Mo_draws 72 = .ok (.iconst 1, 1) := by decide +kernel
theorem d_Mo_draws_73 : decode b_Mo_draws 73 = .ok (.iadd, 1) := by decide +kernel
theorem d_Mo_draws_74 : decode b_Mo_draws 74 = .ok (.putfield 152, 3) := by decide +kernel
theorem d_Mo_draws_77 : decode b_Mo_draws 77 = .ok (.iload_n 3, 1) := by decide +kernel
theorem d_Mo_draws_78 : decode b_Mo_draws 78 = .ok (.ifCond .eq 23, 3) := by decide +kernel
theorem d_Mo_draws_81 : decode b_Mo_draws 81 = .ok (.aload_n 0, 1) := by decide +kernel
theorem d_Mo_draws_82 : decode b_Mo_draws 82 = .ok (.getfield 13, 3) := by decide +kernel
theorem d_Mo_draws_85 : decode b_Mo_draws 85 = .ok (.aload_n 0, 1) := by decide +kernel
theorem d_Mo_draws_86 : decode b_Mo_draws 86 = .ok (.getfield 152, 3) := by decide +kernel
theorem d_Mo_draws_89 : decode b_Mo_draws 89 = .ok (.iload_n 2, 1) := by decide +kernel
theorem d_Mo_draws_90 : decode b_Mo_draws 90 = .ok (.iastore, 1) := by decide +kernel
theorem d_Mo_draws_91 : decode b_Mo_draws 91 = .ok (.aload_n 0, 1) := by decide +kernel
theorem d_Mo_draws_92 : decode b_Mo_draws 92 = .ok (.dup, 1) := by decide +kernel
theorem d_Mo_draws_93 : decode b_Mo_draws 93 = .ok (.getfield 152, 3) := by decide +kernel
theorem d_Mo_draws_96 : decode b_Mo_draws 96 = .ok (.iconst 1, 1) := by decide +kernel
theorem d_Mo_draws_97 : decode b_Mo_draws 97 = .ok (.iadd, 1) := by decide +kernel
theorem d_Mo_draws_98 : decode b_Mo_draws 98 = .ok (.putfield 152, 3) := by decide +kernel
theorem d_Mo_draws_101 : decode b_Mo_draws 101 = .ok (.aload_n 0, 1) := by decide +kernel
theorem d_Mo_draws_102 : decode b_Mo_draws 102 = .ok (.getfield 152, 3) := by decide +kernel
theorem d_Mo_draws_105 : decode b_Mo_draws 105 = .ok (.ireturn, 1) := by decide +kernel
theorem d_Mo_budget_0 : decode b_Mo_budget 0 = .ok (.iload_n 1, 1) := by decide +kernel
theorem d_Mo_budget_1 : decode b_Mo_budget 1 = .ok (.iconst 0, 1) := by decide +kernel
theorem d_Mo_budget_2 : decode b_Mo_budget 2 = .ok (.iconst 4, 1) := by decide +kernel
theorem d_Mo_budget_3 : decode b_Mo_budget 3 = .ok (.invokestatic 144, 3) := by decide +kernel
theorem d_Mo_budget_6 : decode b_Mo_budget 6 = .ok (.ifCond .ne 6, 3) := by decide +kernel
theorem d_Mo_budget_9 : decode b_Mo_budget 9 = .ok (.bipush (-101), 2) := by decide +kernel
theorem d_Mo_budget_11 : decode b_Mo_budget 11 = .ok (.ireturn, 1) := by decide +kernel
theorem d_Mo_budget_12 : decode b_Mo_budget 12 = .ok (.iload_n 2, 1) := by decide +kernel
theorem d_Mo_budget_13 : decode b_Mo_budget 13 = .ok (.iconst 0, 1) := by decide +kernel
theorem d_Mo_budget_14 : decode b_Mo_budget 14 = .ok (.ldc 167, 2) := by decide +kernel
theorem d_Mo_budget_16 : decode b_Mo_budget 16 = .ok (.invokestatic 144, 3) := by decide +kernel
theorem d_Mo_budget_19 : decode b_Mo_budget 19 = .ok (.ifCond .ne 6, 3) := by decide +kernel
theorem d_Mo_budget_22 : decode b_Mo_budget 22 = .ok (.bipush (-102), 2) := by decide +kernel
theorem d_Mo_budget_24 : decode b_Mo_budget 24 = .ok (.ireturn, 1) := by decide +kernel
theorem d_Mo_budget_25 : decode b_Mo_budget 25 = .ok (.iload_n 2, 1) := by decide +kernel
theorem d_Mo_budget_26 : decode b_Mo_budget 26 = .ok (.aload_n 0, 1) := by decide +kernel
theorem d_Mo_budget_27 : decode b_Mo_budget 27 = .ok (.getfield 19, 3) := by decide +kernel
theorem d_Mo_budget_30 : decode b_Mo_budget 30 = .ok (.iload_n 1, 1) := by decide +kernel
theorem d_Mo_budget_31 : decode b_Mo_budget 31 = .ok (.iaload, 1) := by decide +kernel
theorem d_Mo_budget_32 : decode b_Mo_budget 32 = .ok (.if_icmp .ge 6, 3) := by decide +kernel
theorem d_Mo_budget_35 : decode b_Mo_budget 35 = .ok (.bipush (-103), 2) := by decide +kernel
theorem d_Mo_budget_37 : decode b_Mo_budget 37 = .ok (.ireturn, 1) := by decide +kernel
theorem d_Mo_budget_38 : decode b_Mo_budget 38 = .ok (.aload_n 0, 1) := by decide +kernel
theorem d_Mo_budget_39 : decode b_Mo_budget 39 = .ok (.getfield 16, 3) := by decide +kernel
theorem d_Mo_budget_42 : decode b_Mo_budget 42 = .ok (.iload_n 1, 1) := by decide +kernel
theorem d_Mo_budget_43 : decode b_Mo_budget 43 = .ok (.iaload, 1) := by decide +kernel
theorem d_Mo_budget_44 : decode b_Mo_budget 44 = .ok (.istore_n 3, 1) := by decide +kernel
theorem d_Mo_budget_45 : decode b_Mo_budget 45 = .ok (.aload_n 0, 1) := by decide +kernel
theorem d_Mo_budget_46 : decode b_Mo_budget 46 = .ok (.getfield 16, 3) := by decide +kernel
theorem d_Mo_budget_49 : decode b_Mo_budget 49 = .ok (.iload_n 1, 1) := by decide +kernel
theorem d_Mo_budget_50 : decode b_Mo_budget 50 = .ok (.iload_n 2, 1) := by decide +kernel
theorem d_Mo_budget_51 : decode b_Mo_budget 51 = .ok (.iastore, 1) := by decide +kernel
theorem d_Mo_budget_52 : decode b_Mo_budget 52 = .ok (.iload_n 3, 1) := by decide +kernel
theorem d_Mo_budget_53 : decode b_Mo_budget 53 = .ok (.ireturn, 1) := by decide +kernel
theorem d_Mo_ledger_0 : decode b_Mo_ledger 0 = .ok (.iload_n 1, 1) := by decide +kernel
theorem d_Mo_ledger_1 : decode b_Mo_ledger 1 = .ok (.iconst 0, 1) := by decide +kernel
theorem d_Mo_ledger_2 : decode b_Mo_ledger 2 = .ok (.iconst 4, 1) := by decide +kernel
theorem d_Mo_ledger_3 : decode b_Mo_ledger 3 = .ok (.invokestatic 144, 3) := by decide +kernel
theorem d_Mo_ledger_6 : decode b_Mo_ledger 6 = .ok (.ifCond .ne 6, 3) := by decide +kernel
theorem d_Mo_ledger_9 : decode b_Mo_ledger 9 = .ok (.bipush (-101), 2) := by decide +kernel
theorem d_Mo_ledger_11 : decode b_Mo_ledger 11 = .ok (.ireturn, 1) := by decide +kernel
theorem d_Mo_ledger_12 : decode b_Mo_ledger 12 = .ok (.iload_n 2, 1) := by decide +kernel
theorem d_Mo_ledger_13 : decode b_Mo_ledger 13 = .ok (.ifCond .ne 12, 3) := by decide +kernel
theorem d_Mo_ledger_16 : decode b_Mo_ledger 16 = .ok (.aload_n 0, 1) := by decide +kernel
theorem d_Mo_ledger_17 : decode b_Mo_ledger 17 = .ok (.getfield 19, 3) := by decide +kernel
theorem d_Mo_ledger_20 : decode b_Mo_ledger 20 = .ok (.iload_n 1, 1) := by decide +kernel
theorem d_Mo_ledger_21 : decode b_Mo_ledger 21 = .ok (.iaload, 1) := by decide +kernel
theorem d_Mo_ledger_22 : decode b_Mo_ledger 22 = .ok (.goto 26, 3) := by decide +kernel
theorem d_Mo_ledger_25 : decode b_Mo_ledger 25 = .ok (.iload_n 2, 1) := by decide +kernel
theorem d_Mo_ledger_26 : decode b_Mo_ledger 26 = .ok (.iconst 1, 1) := by decide +kernel
theorem d_Mo_ledger_27 : decode b_Mo_ledger 27 = .ok (.if_icmp .ne 19, 3) := by decide +kernel
theorem d_Mo_ledger_30 : decode b_Mo_ledger 30 = .ok (.aload_n 0, 1) := by decide +kernel
theorem d_Mo_ledger_31 : decode b_Mo_ledger 31 = .ok (.getfield 16, 3) := by decide +kernel
theorem d_Mo_ledger_34 : decode b_Mo_ledger 34 = .ok (.iload_n 1, 1) := by decide +kernel
theorem d_Mo_ledger_35 : decode b_Mo_ledger 35 = .ok (.iaload, 1) := by decide +kernel
theorem d_Mo_ledger_36 : decode b_Mo_ledger 36 = .ok (.aload_n 0, 1) := by decide +kernel
theorem d_Mo_ledger_37 : decode b_Mo_ledger 37 = .ok (.getfield 19, 3) := by decide +kernel
theorem d_Mo_ledger_40 : decode b_Mo_ledger 40 = .ok (.iload_n 1, 1) := by decide +kernel
theorem d_Mo_ledger_41 : decode b_Mo_ledger 41 = .ok (.iaload, 1) := by decide +kernel
theorem d_Mo_ledger_42 : decode b_Mo_ledger 42 = .ok (.isub, 1) := by decide +kernel
theorem d_Mo_ledger_43 : decode b_Mo_ledger 43 = .ok (.goto 5, 3) := by decide +kernel
theorem d_Mo_ledger_46 : decode b_Mo_ledger 46 = .ok (.bipush (-102), 2) := by decide +kernel
theorem d_Mo_ledger_48 : decode b_Mo_ledger 48 = .ok (.ireturn, 1) := by decide +kernel
theorem k_182 : (.methodLink R_Mo 148 y_Mo_isCell : Cond) ∈ wG := wGm 1173 (by decide +kernel) (by decide +kernel)
theorem k_183 : (.instanceMethod y_Mo_isCell : Cond) ∈ wG := wGm 1175 (by decide +kernel) (by decide +kernel)
theorem k_184 : (.selects R_Mo y_Mo_isCell y_Mo_isCell : Cond) ∈ wG := wGm 34 (by decide +kernel) (by decide +kernel)
theorem k_185 : (.initialized R_Mo : Cond) ∈ wG := wGm 97 (by decide +kernel) (by decide +kernel)
theorem k_186 : (.code y_Mo_isCell b_Mo_isCell 2 (some .boolean) : Cond) ∈ wG := wGm 1176 (by decide +kernel) (by decide +kernel)
theorem k_187 : (.fieldLink R_Mo 13 "PrivateQueriesModel" "tape" "[I" : Cond) ∈ wG := wGm 969 (by decide +kernel) (by decide +kernel)
theorem k_188 : (.methodLink R_Mo 144 y_Mo_in : Cond) ∈ wG := wGm 1166 (by decide +kernel) (by decide +kernel)
theorem k_189 : (.static y_Mo_in : Cond) ∈ wG := wGm 1167 (by decide +kernel) (by decide +kernel)
theorem k_190 : (.code y_Mo_in b_Mo_in 3 (some .boolean) : Cond) ∈ wG := wGm 1168 (by decide +kernel) (by decide +kernel)
theorem k_191 : (.constant R_Mo 167 1000000 : Cond) ∈ wG := wGm 1185 (by decide +kernel) (by decide +kernel)
theorem k_192 : (.fieldLink R_Mo 19 "PrivateQueriesModel" "spent" "[I" : Cond) ∈ wG := wGm 972 (by decide +kernel) (by decide +kernel)
theorem k_193 : (.fieldLink R_Mo 16 "PrivateQueriesModel" "budget" "[I" : Cond) ∈ wG := wGm 971 (by decide +kernel) (by decide +kernel)
theorem g_Mo_148 : GoodIn wG (wsV R_Mo 148 R_Mo y_Mo_isCell w_Mo_isCell) := wGa (fun w hw => by
  rcases List.mem_cons.mp hw with e | hw
  · exact e ▸ k_182
  rcases List.mem_cons.mp hw with e | hw
  · exact e ▸ k_183
  rcases List.mem_cons.mp hw with e | hw
  · exact e ▸ k_184
  rcases List.mem_cons.mp hw with e | hw
  · exact e ▸ k_185
  · exact absurd hw List.not_mem_nil) (wGc k_186)
theorem g_Mo_144 : GoodIn wG (wsS R_Mo 144 y_Mo_in w_Mo_in) := wGa (fun w hw => by
  rcases List.mem_cons.mp hw with e | hw
  · exact e ▸ k_188
  rcases List.mem_cons.mp hw with e | hw
  · exact e ▸ k_189
  rcases List.mem_cons.mp hw with e | hw
  · exact e ▸ k_185
  · exact absurd hw List.not_mem_nil) (wGc k_190)
theorem mo_in {x z v : Int32} (h : ¬ s_Mo_in x z v = 0) : z.toInt ≤ x.toInt ∧ x.toInt ≤ v.toInt := by
  unfold s_Mo_in at h
  split at h
  · exact absurd rfl h
  · rename_i h1
    split at h
    · exact absurd rfl h
    · rename_i h2
      rw [Int32.lt_iff_toInt_lt] at h1 h2
      exact ⟨by omega, by omega⟩
theorem mo_in5 {x : Int32} (h : ¬ s_Mo_in x 0 4 = 0) : vp_in x 5 := by
  have h1 := mo_in h
  rw [i0, show (4 : Int32).toInt = 4 by decide] at h1
  exact ly_mk h1.1 (by omega)
theorem dr_n {v : Int32} (k : Nat) (hz : up v 3000) (hk : k < 3) (h : v + nI k ≤ 3000) : ∃ n : Nat, v = nI n ∧ n + k ≤ 3000 := by
  obtain ⟨n, hn, hn2, rfl⟩ := up_nI hz
  rw [nI_add] at h
  exact ⟨n, rfl, (nI_leI (by omega) (by decide)).mp h⟩
theorem dr_1 {v : Int32} (hz : up v 3000) (h : v + 1 ≤ 3000) : vp_in v 3000 := by
  obtain ⟨n, rfl, h1⟩ := dr_n 1 hz (by decide) h
  exact vp_in_nI (by omega) (by decide)
theorem dr_2 {v : Int32} (hz : up v 3000) (h : v + 2 ≤ 3000) : vp_in v 3000 := by
  obtain ⟨n, rfl, h1⟩ := dr_n 2 hz (by decide) h
  exact vp_in_nI (by omega) (by decide)
theorem dr_3 {v : Int32} (hz : up v 3000) (h : v + 2 ≤ 3000) : vp_in (v + 1) 3000 := by
  obtain ⟨n, rfl, h1⟩ := dr_n 2 hz (by decide) h
  rw [nI_1]
  exact vp_in_nI (by omega) (by decide)
set_option maxHeartbeats 4000000 in
set_option maxRecDepth 100000 in
theorem c_Mo_draws (l : Launch) (G : GG) (h : Nat) (a_table : Nat) (a_tape : Nat) (a_budget : Nat) (a_spent : Nat) (a_text : Nat) (a_kinds : Nat) (a_values : Nat) (a_scriptKinds : Nat) (a_scriptValues : Nat) (a_isTold : Nat) (a_letOf : Nat) (a_code : Nat) (a_letEnd : Nat) (a_letBegin : Nat) (a_sort : Nat) (a_column : Nat) (a_low : Nat) (a_high : Nat) (a_by : Nat) (a_top : Nat) (a_begins : Nat) (a_ends : Nat) (a_scriptCode : Nat) (a_scriptLetBegin : Nat) (a_scriptLetEnd : Nat) (a_aSort : Nat) (a_aColumn : Nat) (a_aLow : Nat) (a_aHigh : Nat) (a_aBy : Nat) (a_aTop : Nat) (a_aBegin : Nat) (a_anEnd : Nat) (a_told : Nat) (a_out : Nat) (a_goals : Nat) (a_withs : Nat) (a_pile : Nat) (a_letValue : Nat) (a_one : Nat) (a_two : Nat) (v_p : Int32) (v_q : Int32) (v_rows : Int32) (f_tape : Nat → Int32) (v_cells : Int32) (v_signs : Int32) (v_tokens : Int32) (v_scriptTokens : Int32) (v_at : Int32) (v_place : Int32) (v_kind : Int32) (v_value : Int32) (v_depth : Int32) (v_asked : Int32) (v_lets : Int32) (v_questions : Int32) (v_statements : Int32) (v_size : Int32) (v_hasScript : Int32) (v_scriptLets : Int32) (v_scriptQuestions : Int32) (v_toldCount : Int32) (v_outs : Int32) (v_goalCount : Int32) (x : Int32) (z : Int32) (hz_v_cells : up v_cells 3000) : Det l G y_Mo_draws w_Mo_draws (rmD 1) 0 0 [.ref h, .int x, .int z] [(h, .inr (12, .int v_p :: .int v_q :: .ref a_table :: .int v_rows :: .ref a_tape :: .int v_cells :: .ref a_budget :: .ref a_spent :: .ref a_text :: .int v_signs :: .ref a_kinds :: .ref a_values :: .int v_tokens :: .ref a_scriptKinds :: .ref a_scriptValues :: .int v_scriptTokens :: .int v_at :: .int v_place :: .int v_kind :: .int v_value :: .int v_depth :: .int v_asked :: .int v_lets :: .int v_questions :: .int v_statements :: .ref a_isTold :: .ref a_letOf :: .ref a_code :: .int v_size :: .ref a_letEnd :: .ref a_letBegin :: .ref a_sort :: .ref a_column :: .ref a_low :: .ref a_high :: .ref a_by :: .ref a_top :: .ref a_begins :: .ref a_ends :: .int v_hasScript :: .int v_scriptLets :: .int v_scriptQuestions :: .ref a_scriptCode :: .ref a_scriptLetBegin :: .ref a_scriptLetEnd :: .ref a_aSort :: .ref a_aColumn :: .ref a_aLow :: .ref a_aHigh :: .ref a_aBy :: .ref a_aTop :: .ref a_aBegin :: .ref a_anEnd :: .ref a_told :: .int v_toldCount :: .ref a_out :: .int v_outs :: .ref a_goals :: .ref a_withs :: .int v_goalCount :: .ref a_pile :: .ref a_letValue :: .ref a_one :: .ref a_two :: [])), (a_tape, .inl (gI G, 3000, .inl f_tape))] (some (.int (s_Mo_draws v_p v_q f_tape v_cells x z).1)) [(h, .inr (12, .int v_p :: .int v_q :: .ref a_table :: .int v_rows :: .ref a_tape :: .int (s_Mo_draws v_p v_q f_tape v_cells x z).2.1 :: .ref a_budget :: .ref a_spent :: .ref a_text :: .int v_signs :: .ref a_kinds :: .ref a_values :: .int v_tokens :: .ref a_scriptKinds :: .ref a_scriptValues :: .int v_scriptTokens :: .int v_at :: .int v_place :: .int v_kind :: .int v_value :: .int v_depth :: .int v_asked :: .int v_lets :: .int v_questions :: .int v_statements :: .ref a_isTold :: .ref a_letOf :: .ref a_code :: .int v_size :: .ref a_letEnd :: .ref a_letBegin :: .ref a_sort :: .ref a_column :: .ref a_low :: .ref a_high :: .ref a_by :: .ref a_top :: .ref a_begins :: .ref a_ends :: .int v_hasScript :: .int v_scriptLets :: .int v_scriptQuestions :: .ref a_scriptCode :: .ref a_scriptLetBegin :: .ref a_scriptLetEnd :: .ref a_aSort :: .ref a_aColumn :: .ref a_aLow :: .ref a_aHigh :: .ref a_aBy :: .ref a_aTop :: .ref a_aBegin :: .ref a_anEnd :: .ref a_told :: .int v_toldCount :: .ref a_out :: .int v_outs :: .ref a_goals :: .ref a_withs :: .int v_goalCount :: .ref a_pile :: .ref a_letValue :: .ref a_one :: .ref a_two :: [])), (a_tape, .inl (gI G, 3000, .inl (s_Mo_draws v_p v_q f_tape v_cells x z).2.2))] := by
  refine Det.of (cc := b_Mo_draws) (maxL := 4) (ret := (some .int)) (by decide) rfl (Nat.le_of_ble_eq_true rfl) ?_
  intro p e s m args below meth c A ls hx hb hr hml hown hts hlocks hin hA hK hZ hP hD hS hl
  have hts : ∀ w ∈ wG, w.before args s = true := fun w h => hts w (List.mem_cons_of_mem _ h)
  have hown : s.vm.findClass R_Mo = some m.cls := hown
  have hl : lv_has ls 4 [(0, .ref h), (1, .int x), (2, .int z)] := hl
  refine lv_iload_n hx hb d_Mo_draws_0 rfl (lv_at hl 2 rfl) ?_
  refine lv_iconst (v := -1) hx hb d_Mo_draws_1 (by decide) ?_
  refine lv_icmp_eq (tgt := 9) hx hb d_Mo_draws_2 (by decide) (fun c1 => ?_) (fun c1 => ?_)
  · skip
    refine lv_iconst (v := 0) hx hb d_Mo_draws_9 (by decide) ?_
    refine lv_istore_n (lv' := [(3, .int 0), (0, .ref h), (1, .int x), (2, .int z)]) hx hb d_Mo_draws_10 rfl hl (by decide) rfl (fun ls hl => ?_)
    refine lv_aload_n hx hb d_Mo_draws_11 rfl (lv_at hl 1 rfl) ?_
    refine lv_iload_n hx hb d_Mo_draws_12 rfl (lv_at hl 2 rfl) ?_
    obtain ⟨r1, hr1⟩ : ∃ r, (s_Mo_isCell v_p v_q x) = r := ⟨_, rfl⟩
    have hC_r1 := (c_Mo_isCell l G h a_table a_tape a_budget a_spent a_text a_kinds a_values a_scriptKinds a_scriptValues a_isTold a_letOf a_code a_letEnd a_letBegin a_sort a_column a_low a_high a_by a_top a_begins a_ends a_scriptCode a_scriptLetBegin a_scriptLetEnd a_aSort a_aColumn a_aLow a_aHigh a_aBy a_aTop a_aBegin a_anEnd a_told a_out a_goals a_withs a_pile a_letValue a_one a_two v_p v_q v_rows v_cells v_signs v_tokens v_scriptTokens v_at v_place v_kind v_value v_depth v_asked v_lets v_questions v_statements v_size v_hasScript v_scriptLets v_scriptQuestions v_toldCount v_outs v_goalCount x)
    rw [hr1] at hC_r1
    have hf_r1_1 : isB r1 := by rw [← hr1]; exact z_Mo_isCell
    refine ly_callV (rest := []) (wf := [(h, .inr (12, .int v_p :: .int v_q :: .ref a_table :: .int v_rows :: .ref a_tape :: .int v_cells :: .ref a_budget :: .ref a_spent :: .ref a_text :: .int v_signs :: .ref a_kinds :: .ref a_values :: .int v_tokens :: .ref a_scriptKinds :: .ref a_scriptValues :: .int v_scriptTokens :: .int v_at :: .int v_place :: .int v_kind :: .int v_value :: .int v_depth :: .int v_asked :: .int v_lets :: .int v_questions :: .int v_statements :: .ref a_isTold :: .ref a_letOf :: .ref a_code :: .int v_size :: .ref a_letEnd :: .ref a_letBegin :: .ref a_sort :: .ref a_column :: .ref a_low :: .ref a_high :: .ref a_by :: .ref a_top :: .ref a_begins :: .ref a_ends :: .int v_hasScript :: .int v_scriptLets :: .int v_scriptQuestions :: .ref a_scriptCode :: .ref a_scriptLetBegin :: .ref a_scriptLetEnd :: .ref a_aSort :: .ref a_aColumn :: .ref a_aLow :: .ref a_aHigh :: .ref a_aBy :: .ref a_aTop :: .ref a_aBegin :: .ref a_anEnd :: .ref a_told :: .int v_toldCount :: .ref a_out :: .int v_outs :: .ref a_goals :: .ref a_withs :: .int v_goalCount :: .ref a_pile :: .ref a_letValue :: .ref a_one :: .ref a_two :: [])), (a_tape, .inl (gI G, 3000, .inl f_tape))]) ⟨hx, hb, hml, hown, hts⟩ hA hK hZ hP hD hS hC_r1 (cwV 1 hts g_Mo_148 rfl rfl rfl (by decide +kernel) ⟨Nat.le_of_ble_eq_true rfl, Nat.le_of_ble_eq_true rfl⟩) (ci := 12) (q0 := 0) rfl rfl rfl [0] rfl (by decide) rfl rfl rfl hl.1 rfl (Nat.le_of_ble_eq_true rfl) d_Mo_draws_13 ⟨Nat.le_of_ble_eq_true rfl, Nat.le_of_ble_eq_true rfl⟩ (st1 := [.int r1]) (c1 := 0) (s1 := 0) rfl rfl rfl (fun H locs hP hD hS => ?_)
    refine lv_if_eq (tgt := 31) hx hb d_Mo_draws_16 (by decide) (fun c2 => ?_) (fun c2 => ?_)
    · skip
      refine lv_bipush (v := (-102)) hx hb d_Mo_draws_31 (by decide) ?_
      exact ly_iret hx hb hr hlocks hP hD hS d_Mo_draws_33 (by rw [s_Mo_draws] <;> simp only [hr1] <;> rw [if_pos c1, if_pos c2]) (by rw [s_Mo_draws] <;> simp only [hr1] <;> rw [if_pos c1, if_pos c2])
    refine lv_iload_n hx hb d_Mo_draws_19 rfl (lv_at hl 0 rfl) ?_
    refine lv_if_eq (tgt := 34) hx hb d_Mo_draws_20 (by decide) (fun c3 => ?_) (fun c3 => ?_)
    rotate_left 1
    · exact absurd (by decide) c3
    refine lv_aload_n hx hb d_Mo_draws_34 rfl (lv_at hl 1 rfl) ?_
    refine va_get (D := G.1) (ci := 12) (C := R_Mo) (T := F_Mo) (N := 64) (v := .int v_cells) hx hb hts i_Mo hown hK hP 0 rfl rfl 5 (by decide) (hts (.fieldLink R_Mo 152 "PrivateQueriesModel" "cells" "I") k_176) (fun _ h9 => h9) rfl d_Mo_draws_35 ?_
    refine lv_iload_n hx hb d_Mo_draws_38 rfl (lv_at hl 0 rfl) ?_
    refine lv_if_eq (tgt := 46) hx hb d_Mo_draws_39 (by decide) (fun c4 => ?_) (fun c4 => ?_)
    rotate_left 1
    · exact absurd (by decide) c4
    refine lv_iconst (v := 1) hx hb d_Mo_draws_46 (by decide) ?_
    refine lv_iadd hx hb d_Mo_draws_47 ?_
    refine lv_sipush (v := 3000) hx hb d_Mo_draws_48 (by decide) ?_
    refine lv_icmp_le (tgt := 57) hx hb d_Mo_draws_51 (by decide) (fun c5 => ?_) (fun c5 => ?_)
    · skip
      refine lv_aload_n hx hb d_Mo_draws_57 rfl (lv_at hl 1 rfl) ?_
      refine va_get (D := G.1) (ci := 12) (C := R_Mo) (T := F_Mo) (N := 64) (v := .ref a_tape) hx hb hts i_Mo hown hK hP 0 rfl rfl 4 (by decide) (hts (.fieldLink R_Mo 13 "PrivateQueriesModel" "tape" "[I") k_187) (fun _ h9 => h9) rfl d_Mo_draws_58 ?_
      refine lv_aload_n hx hb d_Mo_draws_61 rfl (lv_at hl 1 rfl) ?_
      refine va_get (D := G.1) (ci := 12) (C := R_Mo) (T := F_Mo) (N := 64) (v := .int v_cells) hx hb hts i_Mo hown hK hP 0 rfl rfl 5 (by decide) (hts (.fieldLink R_Mo 152 "PrivateQueriesModel" "cells" "I") k_176) (fun _ h9 => h9) rfl d_Mo_draws_62 ?_
      refine lv_iload_n hx hb d_Mo_draws_65 rfl (lv_at hl 2 rfl) ?_
      refine va_iast hx hb hK hP hD hS 1 0 rfl rfl (dr_1 hz_v_cells c5) d_Mo_draws_66 (fun H locs hP hD hS => ?_)
      have hP : va_P G.1 classes [(h, .inr (12, .int v_p :: .int v_q :: .ref a_table :: .int v_rows :: .ref a_tape :: .int v_cells :: .ref a_budget :: .ref a_spent :: .ref a_text :: .int v_signs :: .ref a_kinds :: .ref a_values :: .int v_tokens :: .ref a_scriptKinds :: .ref a_scriptValues :: .int v_scriptTokens :: .int v_at :: .int v_place :: .int v_kind :: .int v_value :: .int v_depth :: .int v_asked :: .int v_lets :: .int v_questions :: .int v_statements :: .ref a_isTold :: .ref a_letOf :: .ref a_code :: .int v_size :: .ref a_letEnd :: .ref a_letBegin :: .ref a_sort :: .ref a_column :: .ref a_low :: .ref a_high :: .ref a_by :: .ref a_top :: .ref a_begins :: .ref a_ends :: .int v_hasScript :: .int v_scriptLets :: .int v_scriptQuestions :: .ref a_scriptCode :: .ref a_scriptLetBegin :: .ref a_scriptLetEnd :: .ref a_aSort :: .ref a_aColumn :: .ref a_aLow :: .ref a_aHigh :: .ref a_aBy :: .ref a_aTop :: .ref a_aBegin :: .ref a_anEnd :: .ref a_told :: .int v_toldCount :: .ref a_out :: .int v_outs :: .ref a_goals :: .ref a_withs :: .int v_goalCount :: .ref a_pile :: .ref a_letValue :: .ref a_one :: .ref a_two :: [])), (a_tape, .inl (gI G, 3000, .inl (upd f_tape v_cells.toNatClampNeg x)))] H := hP
      have hD : va_D A [(h, .inr (12, .int v_p :: .int v_q :: .ref a_table :: .int v_rows :: .ref a_tape :: .int v_cells :: .ref a_budget :: .ref a_spent :: .ref a_text :: .int v_signs :: .ref a_kinds :: .ref a_values :: .int v_tokens :: .ref a_scriptKinds :: .ref a_scriptValues :: .int v_scriptTokens :: .int v_at :: .int v_place :: .int v_kind :: .int v_value :: .int v_depth :: .int v_asked :: .int v_lets :: .int v_questions :: .int v_statements :: .ref a_isTold :: .ref a_letOf :: .ref a_code :: .int v_size :: .ref a_letEnd :: .ref a_letBegin :: .ref a_sort :: .ref a_column :: .ref a_low :: .ref a_high :: .ref a_by :: .ref a_top :: .ref a_begins :: .ref a_ends :: .int v_hasScript :: .int v_scriptLets :: .int v_scriptQuestions :: .ref a_scriptCode :: .ref a_scriptLetBegin :: .ref a_scriptLetEnd :: .ref a_aSort :: .ref a_aColumn :: .ref a_aLow :: .ref a_aHigh :: .ref a_aBy :: .ref a_aTop :: .ref a_aBegin :: .ref a_anEnd :: .ref a_told :: .int v_toldCount :: .ref a_out :: .int v_outs :: .ref a_goals :: .ref a_withs :: .int v_goalCount :: .ref a_pile :: .ref a_letValue :: .ref a_one :: .ref a_two :: [])), (a_tape, .inl (gI G, 3000, .inl (upd f_tape v_cells.toNatClampNeg x)))] := hD
      refine lv_aload_n hx hb d_Mo_draws_67 rfl (lv_at hl 1 rfl) ?_
      refine lv_dup hx hb d_Mo_draws_68 rfl ?_
      refine va_get (D := G.1) (ci := 12) (C := R_Mo) (T := F_Mo) (N := 64) (v := .int v_cells) hx hb hts i_Mo hown hK hP 0 rfl rfl 5 (by decide) (hts (.fieldLink R_Mo 152 "PrivateQueriesModel" "cells" "I") k_176) (fun _ h9 => h9) rfl d_Mo_draws_69 ?_
      refine lv_iconst (v := 1) hx hb d_Mo_draws_72 (by decide) ?_
      refine lv_iadd hx hb d_Mo_draws_73 ?_
      refine va_put (D := G.1) (ci := 12) (v := .int (v_cells + 1)) (ty := .int) (C := R_Mo) (T := F_Mo) (N := 64) hx hb hts i_Mo t_Mo t_Mo_ok n_Mo hown hK hP hD hS 0 rfl rfl 5 (by decide) (hts (.fieldLink R_Mo 152 "PrivateQueriesModel" "cells" "I") k_176) (fun _ h9 => h9) rfl (by decide +kernel) rfl rfl (Nat.le_of_ble_eq_true rfl) d_Mo_draws_74 (fun H locs hP hD hS => ?_)
      have hP : va_P G.1 classes [(h, .inr (12, .int v_p :: .int v_q :: .ref a_table :: .int v_rows :: .ref a_tape :: .int (v_cells + 1) :: .ref a_budget :: .ref a_spent :: .ref a_text :: .int v_signs :: .ref a_kinds :: .ref a_values :: .int v_tokens :: .ref a_scriptKinds :: .ref a_scriptValues :: .int v_scriptTokens :: .int v_at :: .int v_place :: .int v_kind :: .int v_value :: .int v_depth :: .int v_asked :: .int v_lets :: .int v_questions :: .int v_statements :: .ref a_isTold :: .ref a_letOf :: .ref a_code :: .int v_size :: .ref a_letEnd :: .ref a_letBegin :: .ref a_sort :: .ref a_column :: .ref a_low :: .ref a_high :: .ref a_by :: .ref a_top :: .ref a_begins :: .ref a_ends :: .int v_hasScript :: .int v_scriptLets :: .int v_scriptQuestions :: .ref a_scriptCode :: .ref a_scriptLetBegin :: .ref a_scriptLetEnd :: .ref a_aSort :: .ref a_aColumn :: .ref a_aLow :: .ref a_aHigh :: .ref a_aBy :: .ref a_aTop :: .ref a_aBegin :: .ref a_anEnd :: .ref a_told :: .int v_toldCount :: .ref a_out :: .int v_outs :: .ref a_goals :: .ref a_withs :: .int v_goalCount :: .ref a_pile :: .ref a_letValue :: .ref a_one :: .ref a_two :: [])), (a_tape, .inl (gI G, 3000, .inl (upd f_tape v_cells.toNatClampNeg x)))] H := hP
      have hD : va_D A [(h, .inr (12, .int v_p :: .int v_q :: .ref a_table :: .int v_rows :: .ref a_tape :: .int (v_cells + 1) :: .ref a_budget :: .ref a_spent :: .ref a_text :: .int v_signs :: .ref a_kinds :: .ref a_values :: .int v_tokens :: .ref a_scriptKinds :: .ref a_scriptValues :: .int v_scriptTokens :: .int v_at :: .int v_place :: .int v_kind :: .int v_value :: .int v_depth :: .int v_asked :: .int v_lets :: .int v_questions :: .int v_statements :: .ref a_isTold :: .ref a_letOf :: .ref a_code :: .int v_size :: .ref a_letEnd :: .ref a_letBegin :: .ref a_sort :: .ref a_column :: .ref a_low :: .ref a_high :: .ref a_by :: .ref a_top :: .ref a_begins :: .ref a_ends :: .int v_hasScript :: .int v_scriptLets :: .int v_scriptQuestions :: .ref a_scriptCode :: .ref a_scriptLetBegin :: .ref a_scriptLetEnd :: .ref a_aSort :: .ref a_aColumn :: .ref a_aLow :: .ref a_aHigh :: .ref a_aBy :: .ref a_aTop :: .ref a_aBegin :: .ref a_anEnd :: .ref a_told :: .int v_toldCount :: .ref a_out :: .int v_outs :: .ref a_goals :: .ref a_withs :: .int v_goalCount :: .ref a_pile :: .ref a_letValue :: .ref a_one :: .ref a_two :: [])), (a_tape, .inl (gI G, 3000, .inl (upd f_tape v_cells.toNatClampNeg x)))] := hD
      refine lv_iload_n hx hb d_Mo_draws_77 rfl (lv_at hl 0 rfl) ?_
      refine lv_if_eq (tgt := 101) hx hb d_Mo_draws_78 (by decide) (fun c6 => ?_) (fun c6 => ?_)
      rotate_left 1
      · exact absurd (by decide) c6
      refine lv_aload_n hx hb d_Mo_draws_101 rfl (lv_at hl 1 rfl) ?_
      refine va_get (D := G.1) (ci := 12) (C := R_Mo) (T := F_Mo) (N := 64) (v := .int (v_cells + 1)) hx hb hts i_Mo hown hK hP 0 rfl rfl 5 (by decide) (hts (.fieldLink R_Mo 152 "PrivateQueriesModel" "cells" "I") k_176) (fun _ h9 => h9) rfl d_Mo_draws_102 ?_
      exact ly_iret hx hb hr hlocks hP hD hS d_Mo_draws_105 (by rw [s_Mo_draws] <;> simp only [hr1] <;> rw [if_pos c1, if_neg c2, if_pos c5]) (by rw [s_Mo_draws] <;> simp only [hr1] <;> rw [if_pos c1, if_neg c2, if_pos c5])
    refine lv_bipush (v := (-106)) hx hb d_Mo_draws_54 (by decide) ?_
    exact ly_iret hx hb hr hlocks hP hD hS d_Mo_draws_56 (by rw [s_Mo_draws] <;> simp only [hr1] <;> rw [if_pos c1, if_neg c2, if_neg c5]) (by rw [s_Mo_draws] <;> simp only [hr1] <;> rw [if_pos c1, if_neg c2, if_neg c5])
  refine lv_iconst (v := 1) hx hb d_Mo_draws_5 (by decide) ?_
  refine lv_goto (tgt := 10) hx hb d_Mo_draws_6 (by decide) ?_
  refine lv_istore_n (lv' := [(3, .int 1), (0, .ref h), (1, .int x), (2, .int z)]) hx hb d_Mo_draws_10 rfl hl (by decide) rfl (fun ls hl => ?_)
  refine lv_aload_n hx hb d_Mo_draws_11 rfl (lv_at hl 1 rfl) ?_
  refine lv_iload_n hx hb d_Mo_draws_12 rfl (lv_at hl 2 rfl) ?_
  obtain ⟨r2, hr2⟩ : ∃ r, (s_Mo_isCell v_p v_q x) = r := ⟨_, rfl⟩
  have hC_r2 := (c_Mo_isCell l G h a_table a_tape a_budget a_spent a_text a_kinds a_values a_scriptKinds a_scriptValues a_isTold a_letOf a_code a_letEnd a_letBegin a_sort a_column a_low a_high a_by a_top a_begins a_ends a_scriptCode a_scriptLetBegin a_scriptLetEnd a_aSort a_aColumn a_aLow a_aHigh a_aBy a_aTop a_aBegin a_anEnd a_told a_out a_goals a_withs a_pile a_letValue a_one a_two v_p v_q v_rows v_cells v_signs v_tokens v_scriptTokens v_at v_place v_kind v_value v_depth v_asked v_lets v_questions v_statements v_size v_hasScript v_scriptLets v_scriptQuestions v_toldCount v_outs v_goalCount x)
  rw [hr2] at hC_r2
  have hf_r2_1 : isB r2 := by rw [← hr2]; exact z_Mo_isCell
  refine ly_callV (rest := []) (wf := [(h, .inr (12, .int v_p :: .int v_q :: .ref a_table :: .int v_rows :: .ref a_tape :: .int v_cells :: .ref a_budget :: .ref a_spent :: .ref a_text :: .int v_signs :: .ref a_kinds :: .ref a_values :: .int v_tokens :: .ref a_scriptKinds :: .ref a_scriptValues :: .int v_scriptTokens :: .int v_at :: .int v_place :: .int v_kind :: .int v_value :: .int v_depth :: .int v_asked :: .int v_lets :: .int v_questions :: .int v_statements :: .ref a_isTold :: .ref a_letOf :: .ref a_code :: .int v_size :: .ref a_letEnd :: .ref a_letBegin :: .ref a_sort :: .ref a_column :: .ref a_low :: .ref a_high :: .ref a_by :: .ref a_top :: .ref a_begins :: .ref a_ends :: .int v_hasScript :: .int v_scriptLets :: .int v_scriptQuestions :: .ref a_scriptCode :: .ref a_scriptLetBegin :: .ref a_scriptLetEnd :: .ref a_aSort :: .ref a_aColumn :: .ref a_aLow :: .ref a_aHigh :: .ref a_aBy :: .ref a_aTop :: .ref a_aBegin :: .ref a_anEnd :: .ref a_told :: .int v_toldCount :: .ref a_out :: .int v_outs :: .ref a_goals :: .ref a_withs :: .int v_goalCount :: .ref a_pile :: .ref a_letValue :: .ref a_one :: .ref a_two :: [])), (a_tape, .inl (gI G, 3000, .inl f_tape))]) ⟨hx, hb, hml, hown, hts⟩ hA hK hZ hP hD hS hC_r2 (cwV 1 hts g_Mo_148 rfl rfl rfl (by decide +kernel) ⟨Nat.le_of_ble_eq_true rfl, Nat.le_of_ble_eq_true rfl⟩) (ci := 12) (q0 := 0) rfl rfl rfl [0] rfl (by decide) rfl rfl rfl hl.1 rfl (Nat.le_of_ble_eq_true rfl) d_Mo_draws_13 ⟨Nat.le_of_ble_eq_true rfl, Nat.le_of_ble_eq_true rfl⟩ (st1 := [.int r2]) (c1 := 0) (s1 := 0) rfl rfl rfl (fun H locs hP hD hS => ?_)
  refine lv_if_eq (tgt := 31) hx hb d_Mo_draws_16 (by decide) (fun c7 => ?_) (fun c7 => ?_)
  · skip
    refine lv_bipush (v := (-102)) hx hb d_Mo_draws_31 (by decide) ?_
    exact ly_iret hx hb hr hlocks hP hD hS d_Mo_draws_33 (by rw [s_Mo_draws] <;> simp only [hr2] <;> rw [if_neg c1, if_pos c7]) (by rw [s_Mo_draws] <;> simp only [hr2] <;> rw [if_neg c1, if_pos c7])
  refine lv_iload_n hx hb d_Mo_draws_19 rfl (lv_at hl 0 rfl) ?_
  refine lv_if_eq (tgt := 34) hx hb d_Mo_draws_20 (by decide) (fun c8 => ?_) (fun c8 => ?_)
  · exact absurd c8 (by decide)
  refine lv_aload_n hx hb d_Mo_draws_23 rfl (lv_at hl 1 rfl) ?_
  refine lv_iload_n hx hb d_Mo_draws_24 rfl (lv_at hl 3 rfl) ?_
  obtain ⟨r3, hr3⟩ : ∃ r, (s_Mo_isCell v_p v_q z) = r := ⟨_, rfl⟩
  have hC_r3 := (c_Mo_isCell l G h a_table a_tape a_budget a_spent a_text a_kinds a_values a_scriptKinds a_scriptValues a_isTold a_letOf a_code a_letEnd a_letBegin a_sort a_column a_low a_high a_by a_top a_begins a_ends a_scriptCode a_scriptLetBegin a_scriptLetEnd a_aSort a_aColumn a_aLow a_aHigh a_aBy a_aTop a_aBegin a_anEnd a_told a_out a_goals a_withs a_pile a_letValue a_one a_two v_p v_q v_rows v_cells v_signs v_tokens v_scriptTokens v_at v_place v_kind v_value v_depth v_asked v_lets v_questions v_statements v_size v_hasScript v_scriptLets v_scriptQuestions v_toldCount v_outs v_goalCount z)
  rw [hr3] at hC_r3
  have hf_r3_1 : isB r3 := by rw [← hr3]; exact z_Mo_isCell
  refine ly_callV (rest := []) (wf := [(h, .inr (12, .int v_p :: .int v_q :: .ref a_table :: .int v_rows :: .ref a_tape :: .int v_cells :: .ref a_budget :: .ref a_spent :: .ref a_text :: .int v_signs :: .ref a_kinds :: .ref a_values :: .int v_tokens :: .ref a_scriptKinds :: .ref a_scriptValues :: .int v_scriptTokens :: .int v_at :: .int v_place :: .int v_kind :: .int v_value :: .int v_depth :: .int v_asked :: .int v_lets :: .int v_questions :: .int v_statements :: .ref a_isTold :: .ref a_letOf :: .ref a_code :: .int v_size :: .ref a_letEnd :: .ref a_letBegin :: .ref a_sort :: .ref a_column :: .ref a_low :: .ref a_high :: .ref a_by :: .ref a_top :: .ref a_begins :: .ref a_ends :: .int v_hasScript :: .int v_scriptLets :: .int v_scriptQuestions :: .ref a_scriptCode :: .ref a_scriptLetBegin :: .ref a_scriptLetEnd :: .ref a_aSort :: .ref a_aColumn :: .ref a_aLow :: .ref a_aHigh :: .ref a_aBy :: .ref a_aTop :: .ref a_aBegin :: .ref a_anEnd :: .ref a_told :: .int v_toldCount :: .ref a_out :: .int v_outs :: .ref a_goals :: .ref a_withs :: .int v_goalCount :: .ref a_pile :: .ref a_letValue :: .ref a_one :: .ref a_two :: [])), (a_tape, .inl (gI G, 3000, .inl f_tape))]) ⟨hx, hb, hml, hown, hts⟩ hA hK hZ hP hD hS hC_r3 (cwV 1 hts g_Mo_148 rfl rfl rfl (by decide +kernel) ⟨Nat.le_of_ble_eq_true rfl, Nat.le_of_ble_eq_true rfl⟩) (ci := 12) (q0 := 0) rfl rfl rfl [0] rfl (by decide) rfl rfl rfl hl.1 rfl (Nat.le_of_ble_eq_true rfl) d_Mo_draws_25 ⟨Nat.le_of_ble_eq_true rfl, Nat.le_of_ble_eq_true rfl⟩ (st1 := [.int r3]) (c1 := 0) (s1 := 0) rfl rfl rfl (fun H locs hP hD hS => ?_)
  refine lv_if_ne (tgt := 34) hx hb d_Mo_draws_28 (by decide) (fun c9 => ?_) (fun c9 => ?_)
  · skip
    refine lv_aload_n hx hb d_Mo_draws_34 rfl (lv_at hl 1 rfl) ?_
    refine va_get (D := G.1) (ci := 12) (C := R_Mo) (T := F_Mo) (N := 64) (v := .int v_cells) hx hb hts i_Mo hown hK hP 0 rfl rfl 5 (by decide) (hts (.fieldLink R_Mo 152 "PrivateQueriesModel" "cells" "I") k_176) (fun _ h9 => h9) rfl d_Mo_draws_35 ?_
    refine lv_iload_n hx hb d_Mo_draws_38 rfl (lv_at hl 0 rfl) ?_
    refine lv_if_eq (tgt := 46) hx hb d_Mo_draws_39 (by decide) (fun c10 => ?_) (fun c10 => ?_)
    · exact absurd c10 (by decide)
    refine lv_iconst (v := 2) hx hb d_Mo_draws_42 (by decide) ?_
    refine lv_goto (tgt := 47) hx hb d_Mo_draws_43 (by decide) ?_
    refine lv_iadd hx hb d_Mo_draws_47 ?_
    refine lv_sipush (v := 3000) hx hb d_Mo_draws_48 (by decide) ?_
    refine lv_icmp_le (tgt := 57) hx hb d_Mo_draws_51 (by decide) (fun c11 => ?_) (fun c11 => ?_)
    · skip
      refine lv_aload_n hx hb d_Mo_draws_57 rfl (lv_at hl 1 rfl) ?_
      refine va_get (D := G.1) (ci := 12) (C := R_Mo) (T := F_Mo) (N := 64) (v := .ref a_tape) hx hb hts i_Mo hown hK hP 0 rfl rfl 4 (by decide) (hts (.fieldLink R_Mo 13 "PrivateQueriesModel" "tape" "[I") k_187) (fun _ h9 => h9) rfl d_Mo_draws_58 ?_
      refine lv_aload_n hx hb d_Mo_draws_61 rfl (lv_at hl 1 rfl) ?_
      refine va_get (D := G.1) (ci := 12) (C := R_Mo) (T := F_Mo) (N := 64) (v := .int v_cells) hx hb hts i_Mo hown hK hP 0 rfl rfl 5 (by decide) (hts (.fieldLink R_Mo 152 "PrivateQueriesModel" "cells" "I") k_176) (fun _ h9 => h9) rfl d_Mo_draws_62 ?_
      refine lv_iload_n hx hb d_Mo_draws_65 rfl (lv_at hl 2 rfl) ?_
      refine va_iast hx hb hK hP hD hS 1 0 rfl rfl (dr_2 hz_v_cells c11) d_Mo_draws_66 (fun H locs hP hD hS => ?_)
      have hP : va_P G.1 classes [(h, .inr (12, .int v_p :: .int v_q :: .ref a_table :: .int v_rows :: .ref a_tape :: .int v_cells :: .ref a_budget :: .ref a_spent :: .ref a_text :: .int v_signs :: .ref a_kinds :: .ref a_values :: .int v_tokens :: .ref a_scriptKinds :: .ref a_scriptValues :: .int v_scriptTokens :: .int v_at :: .int v_place :: .int v_kind :: .int v_value :: .int v_depth :: .int v_asked :: .int v_lets :: .int v_questions :: .int v_statements :: .ref a_isTold :: .ref a_letOf :: .ref a_code :: .int v_size :: .ref a_letEnd :: .ref a_letBegin :: .ref a_sort :: .ref a_column :: .ref a_low :: .ref a_high :: .ref a_by :: .ref a_top :: .ref a_begins :: .ref a_ends :: .int v_hasScript :: .int v_scriptLets :: .int v_scriptQuestions :: .ref a_scriptCode :: .ref a_scriptLetBegin :: .ref a_scriptLetEnd :: .ref a_aSort :: .ref a_aColumn :: .ref a_aLow :: .ref a_aHigh :: .ref a_aBy :: .ref a_aTop :: .ref a_aBegin :: .ref a_anEnd :: .ref a_told :: .int v_toldCount :: .ref a_out :: .int v_outs :: .ref a_goals :: .ref a_withs :: .int v_goalCount :: .ref a_pile :: .ref a_letValue :: .ref a_one :: .ref a_two :: [])), (a_tape, .inl (gI G, 3000, .inl (upd f_tape v_cells.toNatClampNeg x)))] H := hP
      have hD : va_D A [(h, .inr (12, .int v_p :: .int v_q :: .ref a_table :: .int v_rows :: .ref a_tape :: .int v_cells :: .ref a_budget :: .ref a_spent :: .ref a_text :: .int v_signs :: .ref a_kinds :: .ref a_values :: .int v_tokens :: .ref a_scriptKinds :: .ref a_scriptValues :: .int v_scriptTokens :: .int v_at :: .int v_place :: .int v_kind :: .int v_value :: .int v_depth :: .int v_asked :: .int v_lets :: .int v_questions :: .int v_statements :: .ref a_isTold :: .ref a_letOf :: .ref a_code :: .int v_size :: .ref a_letEnd :: .ref a_letBegin :: .ref a_sort :: .ref a_column :: .ref a_low :: .ref a_high :: .ref a_by :: .ref a_top :: .ref a_begins :: .ref a_ends :: .int v_hasScript :: .int v_scriptLets :: .int v_scriptQuestions :: .ref a_scriptCode :: .ref a_scriptLetBegin :: .ref a_scriptLetEnd :: .ref a_aSort :: .ref a_aColumn :: .ref a_aLow :: .ref a_aHigh :: .ref a_aBy :: .ref a_aTop :: .ref a_aBegin :: .ref a_anEnd :: .ref a_told :: .int v_toldCount :: .ref a_out :: .int v_outs :: .ref a_goals :: .ref a_withs :: .int v_goalCount :: .ref a_pile :: .ref a_letValue :: .ref a_one :: .ref a_two :: [])), (a_tape, .inl (gI G, 3000, .inl (upd f_tape v_cells.toNatClampNeg x)))] := hD
      refine lv_aload_n hx hb d_Mo_draws_67 rfl (lv_at hl 1 rfl) ?_
      refine lv_dup hx hb d_Mo_draws_68 rfl ?_
      refine va_get (D := G.1) (ci := 12) (C := R_Mo) (T := F_Mo) (N := 64) (v := .int v_cells) hx hb hts i_Mo hown hK hP 0 rfl rfl 5 (by decide) (hts (.fieldLink R_Mo 152 "PrivateQueriesModel" "cells" "I") k_176) (fun _ h9 => h9) rfl d_Mo_draws_69 ?_
      refine lv_iconst (v := 1) hx hb d_Mo_draws_72 (by decide) ?_
      refine lv_iadd hx hb d_Mo_draws_73 ?_
      refine va_put (D := G.1) (ci := 12) (v := .int (v_cells + 1)) (ty := .int) (C := R_Mo) (T := F_Mo) (N := 64) hx hb hts i_Mo t_Mo t_Mo_ok n_Mo hown hK hP hD hS 0 rfl rfl 5 (by decide) (hts (.fieldLink R_Mo 152 "PrivateQueriesModel" "cells" "I") k_176) (fun _ h9 => h9) rfl (by decide +kernel) rfl rfl (Nat.le_of_ble_eq_true rfl) d_Mo_draws_74 (fun H locs hP hD hS => ?_)
      have hP : va_P G.1 classes [(h, .inr (12, .int v_p :: .int v_q :: .ref a_table :: .int v_rows :: .ref a_tape :: .int (v_cells + 1) :: .ref a_budget :: .ref a_spent :: .ref a_text :: .int v_signs :: .ref a_kinds :: .ref a_values :: .int v_tokens :: .ref a_scriptKinds :: .ref a_scriptValues :: .int v_scriptTokens :: .int v_at :: .int v_place :: .int v_kind :: .int v_value :: .int v_depth :: .int v_asked :: .int v_lets :: .int v_questions :: .int v_statements :: .ref a_isTold :: .ref a_letOf :: .ref a_code :: .int v_size :: .ref a_letEnd :: .ref a_letBegin :: .ref a_sort :: .ref a_column :: .ref a_low :: .ref a_high :: .ref a_by :: .ref a_top :: .ref a_begins :: .ref a_ends :: .int v_hasScript :: .int v_scriptLets :: .int v_scriptQuestions :: .ref a_scriptCode :: .ref a_scriptLetBegin :: .ref a_scriptLetEnd :: .ref a_aSort :: .ref a_aColumn :: .ref a_aLow :: .ref a_aHigh :: .ref a_aBy :: .ref a_aTop :: .ref a_aBegin :: .ref a_anEnd :: .ref a_told :: .int v_toldCount :: .ref a_out :: .int v_outs :: .ref a_goals :: .ref a_withs :: .int v_goalCount :: .ref a_pile :: .ref a_letValue :: .ref a_one :: .ref a_two :: [])), (a_tape, .inl (gI G, 3000, .inl (upd f_tape v_cells.toNatClampNeg x)))] H := hP
      have hD : va_D A [(h, .inr (12, .int v_p :: .int v_q :: .ref a_table :: .int v_rows :: .ref a_tape :: .int (v_cells + 1) :: .ref a_budget :: .ref a_spent :: .ref a_text :: .int v_signs :: .ref a_kinds :: .ref a_values :: .int v_tokens :: .ref a_scriptKinds :: .ref a_scriptValues :: .int v_scriptTokens :: .int v_at :: .int v_place :: .int v_kind :: .int v_value :: .int v_depth :: .int v_asked :: .int v_lets :: .int v_questions :: .int v_statements :: .ref a_isTold :: .ref a_letOf :: .ref a_code :: .int v_size :: .ref a_letEnd :: .ref a_letBegin :: .ref a_sort :: .ref a_column :: .ref a_low :: .ref a_high :: .ref a_by :: .ref a_top :: .ref a_begins :: .ref a_ends :: .int v_hasScript :: .int v_scriptLets :: .int v_scriptQuestions :: .ref a_scriptCode :: .ref a_scriptLetBegin :: .ref a_scriptLetEnd :: .ref a_aSort :: .ref a_aColumn :: .ref a_aLow :: .ref a_aHigh :: .ref a_aBy :: .ref a_aTop :: .ref a_aBegin :: .ref a_anEnd :: .ref a_told :: .int v_toldCount :: .ref a_out :: .int v_outs :: .ref a_goals :: .ref a_withs :: .int v_goalCount :: .ref a_pile :: .ref a_letValue :: .ref a_one :: .ref a_two :: [])), (a_tape, .inl (gI G, 3000, .inl (upd f_tape v_cells.toNatClampNeg x)))] := hD
      refine lv_iload_n hx hb d_Mo_draws_77 rfl (lv_at hl 0 rfl) ?_
      refine lv_if_eq (tgt := 101) hx hb d_Mo_draws_78 (by decide) (fun c12 => ?_) (fun c12 => ?_)
      · exact absurd c12 (by decide)
      refine lv_aload_n hx hb d_Mo_draws_81 rfl (lv_at hl 1 rfl) ?_
      refine va_get (D := G.1) (ci := 12) (C := R_Mo) (T := F_Mo) (N := 64) (v := .ref a_tape) hx hb hts i_Mo hown hK hP 0 rfl rfl 4 (by decide) (hts (.fieldLink R_Mo 13 "PrivateQueriesModel" "tape" "[I") k_187) (fun _ h9 => h9) rfl d_Mo_draws_82 ?_
      refine lv_aload_n hx hb d_Mo_draws_85 rfl (lv_at hl 1 rfl) ?_
      refine va_get (D := G.1) (ci := 12) (C := R_Mo) (T := F_Mo) (N := 64) (v := .int (v_cells + 1)) hx hb hts i_Mo hown hK hP 0 rfl rfl 5 (by decide) (hts (.fieldLink R_Mo 152 "PrivateQueriesModel" "cells" "I") k_176) (fun _ h9 => h9) rfl d_Mo_draws_86 ?_
      refine lv_iload_n hx hb d_Mo_draws_89 rfl (lv_at hl 3 rfl) ?_
      refine va_iast hx hb hK hP hD hS 1 0 rfl rfl (dr_3 hz_v_cells c11) d_Mo_draws_90 (fun H locs hP hD hS => ?_)
      have hP : va_P G.1 classes [(h, .inr (12, .int v_p :: .int v_q :: .ref a_table :: .int v_rows :: .ref a_tape :: .int (v_cells + 1) :: .ref a_budget :: .ref a_spent :: .ref a_text :: .int v_signs :: .ref a_kinds :: .ref a_values :: .int v_tokens :: .ref a_scriptKinds :: .ref a_scriptValues :: .int v_scriptTokens :: .int v_at :: .int v_place :: .int v_kind :: .int v_value :: .int v_depth :: .int v_asked :: .int v_lets :: .int v_questions :: .int v_statements :: .ref a_isTold :: .ref a_letOf :: .ref a_code :: .int v_size :: .ref a_letEnd :: .ref a_letBegin :: .ref a_sort :: .ref a_column :: .ref a_low :: .ref a_high :: .ref a_by :: .ref a_top :: .ref a_begins :: .ref a_ends :: .int v_hasScript :: .int v_scriptLets :: .int v_scriptQuestions :: .ref a_scriptCode :: .ref a_scriptLetBegin :: .ref a_scriptLetEnd :: .ref a_aSort :: .ref a_aColumn :: .ref a_aLow :: .ref a_aHigh :: .ref a_aBy :: .ref a_aTop :: .ref a_aBegin :: .ref a_anEnd :: .ref a_told :: .int v_toldCount :: .ref a_out :: .int v_outs :: .ref a_goals :: .ref a_withs :: .int v_goalCount :: .ref a_pile :: .ref a_letValue :: .ref a_one :: .ref a_two :: [])), (a_tape, .inl (gI G, 3000, .inl (upd (upd f_tape v_cells.toNatClampNeg x) (v_cells + 1).toNatClampNeg z)))] H := hP
      have hD : va_D A [(h, .inr (12, .int v_p :: .int v_q :: .ref a_table :: .int v_rows :: .ref a_tape :: .int (v_cells + 1) :: .ref a_budget :: .ref a_spent :: .ref a_text :: .int v_signs :: .ref a_kinds :: .ref a_values :: .int v_tokens :: .ref a_scriptKinds :: .ref a_scriptValues :: .int v_scriptTokens :: .int v_at :: .int v_place :: .int v_kind :: .int v_value :: .int v_depth :: .int v_asked :: .int v_lets :: .int v_questions :: .int v_statements :: .ref a_isTold :: .ref a_letOf :: .ref a_code :: .int v_size :: .ref a_letEnd :: .ref a_letBegin :: .ref a_sort :: .ref a_column :: .ref a_low :: .ref a_high :: .ref a_by :: .ref a_top :: .ref a_begins :: .ref a_ends :: .int v_hasScript :: .int v_scriptLets :: .int v_scriptQuestions :: .ref a_scriptCode :: .ref a_scriptLetBegin :: .ref a_scriptLetEnd :: .ref a_aSort :: .ref a_aColumn :: .ref a_aLow :: .ref a_aHigh :: .ref a_aBy :: .ref a_aTop :: .ref a_aBegin :: .ref a_anEnd :: .ref a_told :: .int v_toldCount :: .ref a_out :: .int v_outs :: .ref a_goals :: .ref a_withs :: .int v_goalCount :: .ref a_pile :: .ref a_letValue :: .ref a_one :: .ref a_two :: [])), (a_tape, .inl (gI G, 3000, .inl (upd (upd f_tape v_cells.toNatClampNeg x) (v_cells + 1).toNatClampNeg z)))] := hD
      refine lv_aload_n hx hb d_Mo_draws_91 rfl (lv_at hl 1 rfl) ?_
      refine lv_dup hx hb d_Mo_draws_92 rfl ?_
      refine va_get (D := G.1) (ci := 12) (C := R_Mo) (T := F_Mo) (N := 64) (v := .int (v_cells + 1)) hx hb hts i_Mo hown hK hP 0 rfl rfl 5 (by decide) (hts (.fieldLink R_Mo 152 "PrivateQueriesModel" "cells" "I") k_176) (fun _ h9 => h9) rfl d_Mo_draws_93 ?_
      refine lv_iconst (v := 1) hx hb d_Mo_draws_96 (by decide) ?_
      refine lv_iadd hx hb d_Mo_draws_97 ?_
      refine va_put (D := G.1) (ci := 12) (v := .int ((v_cells + 1) + 1)) (ty := .int) (C := R_Mo) (T := F_Mo) (N := 64) hx hb hts i_Mo t_Mo t_Mo_ok n_Mo hown hK hP hD hS 0 rfl rfl 5 (by decide) (hts (.fieldLink R_Mo 152 "PrivateQueriesModel" "cells" "I") k_176) (fun _ h9 => h9) rfl (by decide +kernel) rfl rfl (Nat.le_of_ble_eq_true rfl) d_Mo_draws_98 (fun H locs hP hD hS => ?_)
      have hP : va_P G.1 classes [(h, .inr (12, .int v_p :: .int v_q :: .ref a_table :: .int v_rows :: .ref a_tape :: .int ((v_cells + 1) + 1) :: .ref a_budget :: .ref a_spent :: .ref a_text :: .int v_signs :: .ref a_kinds :: .ref a_values :: .int v_tokens :: .ref a_scriptKinds :: .ref a_scriptValues :: .int v_scriptTokens :: .int v_at :: .int v_place :: .int v_kind :: .int v_value :: .int v_depth :: .int v_asked :: .int v_lets :: .int v_questions :: .int v_statements :: .ref a_isTold :: .ref a_letOf :: .ref a_code :: .int v_size :: .ref a_letEnd :: .ref a_letBegin :: .ref a_sort :: .ref a_column :: .ref a_low :: .ref a_high :: .ref a_by :: .ref a_top :: .ref a_begins :: .ref a_ends :: .int v_hasScript :: .int v_scriptLets :: .int v_scriptQuestions :: .ref a_scriptCode :: .ref a_scriptLetBegin :: .ref a_scriptLetEnd :: .ref a_aSort :: .ref a_aColumn :: .ref a_aLow :: .ref a_aHigh :: .ref a_aBy :: .ref a_aTop :: .ref a_aBegin :: .ref a_anEnd :: .ref a_told :: .int v_toldCount :: .ref a_out :: .int v_outs :: .ref a_goals :: .ref a_withs :: .int v_goalCount :: .ref a_pile :: .ref a_letValue :: .ref a_one :: .ref a_two :: [])), (a_tape, .inl (gI G, 3000, .inl (upd (upd f_tape v_cells.toNatClampNeg x) (v_cells + 1).toNatClampNeg z)))] H := hP
      have hD : va_D A [(h, .inr (12, .int v_p :: .int v_q :: .ref a_table :: .int v_rows :: .ref a_tape :: .int ((v_cells + 1) + 1) :: .ref a_budget :: .ref a_spent :: .ref a_text :: .int v_signs :: .ref a_kinds :: .ref a_values :: .int v_tokens :: .ref a_scriptKinds :: .ref a_scriptValues :: .int v_scriptTokens :: .int v_at :: .int v_place :: .int v_kind :: .int v_value :: .int v_depth :: .int v_asked :: .int v_lets :: .int v_questions :: .int v_statements :: .ref a_isTold :: .ref a_letOf :: .ref a_code :: .int v_size :: .ref a_letEnd :: .ref a_letBegin :: .ref a_sort :: .ref a_column :: .ref a_low :: .ref a_high :: .ref a_by :: .ref a_top :: .ref a_begins :: .ref a_ends :: .int v_hasScript :: .int v_scriptLets :: .int v_scriptQuestions :: .ref a_scriptCode :: .ref a_scriptLetBegin :: .ref a_scriptLetEnd :: .ref a_aSort :: .ref a_aColumn :: .ref a_aLow :: .ref a_aHigh :: .ref a_aBy :: .ref a_aTop :: .ref a_aBegin :: .ref a_anEnd :: .ref a_told :: .int v_toldCount :: .ref a_out :: .int v_outs :: .ref a_goals :: .ref a_withs :: .int v_goalCount :: .ref a_pile :: .ref a_letValue :: .ref a_one :: .ref a_two :: [])), (a_tape, .inl (gI G, 3000, .inl (upd (upd f_tape v_cells.toNatClampNeg x) (v_cells + 1).toNatClampNeg z)))] := hD
      refine lv_aload_n hx hb d_Mo_draws_101 rfl (lv_at hl 1 rfl) ?_
      refine va_get (D := G.1) (ci := 12) (C := R_Mo) (T := F_Mo) (N := 64) (v := .int ((v_cells + 1) + 1)) hx hb hts i_Mo hown hK hP 0 rfl rfl 5 (by decide) (hts (.fieldLink R_Mo 152 "PrivateQueriesModel" "cells" "I") k_176) (fun _ h9 => h9) rfl d_Mo_draws_102 ?_
      exact ly_iret hx hb hr hlocks hP hD hS d_Mo_draws_105 (by rw [s_Mo_draws] <;> simp only [hr2, hr3] <;> rw [if_neg c1, if_neg c7, if_neg c9, if_pos c11]) (by rw [s_Mo_draws] <;> simp only [hr2, hr3] <;> rw [if_neg c1, if_neg c7, if_neg c9, if_pos c11])
    refine lv_bipush (v := (-106)) hx hb d_Mo_draws_54 (by decide) ?_
    exact ly_iret hx hb hr hlocks hP hD hS d_Mo_draws_56 (by rw [s_Mo_draws] <;> simp only [hr2, hr3] <;> rw [if_neg c1, if_neg c7, if_neg c9, if_neg c11]) (by rw [s_Mo_draws] <;> simp only [hr2, hr3] <;> rw [if_neg c1, if_neg c7, if_neg c9, if_neg c11])
  refine lv_bipush (v := (-102)) hx hb d_Mo_draws_31 (by decide) ?_
  exact ly_iret hx hb hr hlocks hP hD hS d_Mo_draws_33 (by rw [s_Mo_draws] <;> simp only [hr2, hr3] <;> rw [if_neg c1, if_neg c7, if_pos c9]) (by rw [s_Mo_draws] <;> simp only [hr2, hr3] <;> rw [if_neg c1, if_neg c7, if_pos c9])

set_option maxHeartbeats 4000000 in
set_option maxRecDepth 100000 in
theorem c_Mo_budget (l : Launch) (G : GG) (h : Nat) (a_table : Nat) (a_tape : Nat) (a_budget : Nat) (a_spent : Nat) (a_text : Nat) (a_kinds : Nat) (a_values : Nat) (a_scriptKinds : Nat) (a_scriptValues : Nat) (a_isTold : Nat) (a_letOf : Nat) (a_code : Nat) (a_letEnd : Nat) (a_letBegin : Nat) (a_sort : Nat) (a_column : Nat) (a_low : Nat) (a_high : Nat) (a_by : Nat) (a_top : Nat) (a_begins : Nat) (a_ends : Nat) (a_scriptCode : Nat) (a_scriptLetBegin : Nat) (a_scriptLetEnd : Nat) (a_aSort : Nat) (a_aColumn : Nat) (a_aLow : Nat) (a_aHigh : Nat) (a_aBy : Nat) (a_aTop : Nat) (a_aBegin : Nat) (a_anEnd : Nat) (a_told : Nat) (a_out : Nat) (a_goals : Nat) (a_withs : Nat) (a_pile : Nat) (a_letValue : Nat) (a_one : Nat) (a_two : Nat) (v_p : Int32) (v_q : Int32) (v_rows : Int32) (v_cells : Int32) (f_budget : Nat → Int32) (f_spent : Nat → Int32) (v_signs : Int32) (v_tokens : Int32) (v_scriptTokens : Int32) (v_at : Int32) (v_place : Int32) (v_kind : Int32) (v_value : Int32) (v_depth : Int32) (v_asked : Int32) (v_lets : Int32) (v_questions : Int32) (v_statements : Int32) (v_size : Int32) (v_hasScript : Int32) (v_scriptLets : Int32) (v_scriptQuestions : Int32) (v_toldCount : Int32) (v_outs : Int32) (v_goalCount : Int32) (x : Int32) (z : Int32) : Det l G y_Mo_budget w_Mo_budget (rmD 1) 0 0 [.ref h, .int x, .int z] [(h, .inr (12, .int v_p :: .int v_q :: .ref a_table :: .int v_rows :: .ref a_tape :: .int v_cells :: .ref a_budget :: .ref a_spent :: .ref a_text :: .int v_signs :: .ref a_kinds :: .ref a_values :: .int v_tokens :: .ref a_scriptKinds :: .ref a_scriptValues :: .int v_scriptTokens :: .int v_at :: .int v_place :: .int v_kind :: .int v_value :: .int v_depth :: .int v_asked :: .int v_lets :: .int v_questions :: .int v_statements :: .ref a_isTold :: .ref a_letOf :: .ref a_code :: .int v_size :: .ref a_letEnd :: .ref a_letBegin :: .ref a_sort :: .ref a_column :: .ref a_low :: .ref a_high :: .ref a_by :: .ref a_top :: .ref a_begins :: .ref a_ends :: .int v_hasScript :: .int v_scriptLets :: .int v_scriptQuestions :: .ref a_scriptCode :: .ref a_scriptLetBegin :: .ref a_scriptLetEnd :: .ref a_aSort :: .ref a_aColumn :: .ref a_aLow :: .ref a_aHigh :: .ref a_aBy :: .ref a_aTop :: .ref a_aBegin :: .ref a_anEnd :: .ref a_told :: .int v_toldCount :: .ref a_out :: .int v_outs :: .ref a_goals :: .ref a_withs :: .int v_goalCount :: .ref a_pile :: .ref a_letValue :: .ref a_one :: .ref a_two :: [])), (a_budget, .inl (gI G, 5, .inl f_budget)), (a_spent, .inl (gI G, 5, .inl f_spent))] (some (.int (s_Mo_budget f_budget f_spent x z).1)) [(h, .inr (12, .int v_p :: .int v_q :: .ref a_table :: .int v_rows :: .ref a_tape :: .int v_cells :: .ref a_budget :: .ref a_spent :: .ref a_text :: .int v_signs :: .ref a_kinds :: .ref a_values :: .int v_tokens :: .ref a_scriptKinds :: .ref a_scriptValues :: .int v_scriptTokens :: .int v_at :: .int v_place :: .int v_kind :: .int v_value :: .int v_depth :: .int v_asked :: .int v_lets :: .int v_questions :: .int v_statements :: .ref a_isTold :: .ref a_letOf :: .ref a_code :: .int v_size :: .ref a_letEnd :: .ref a_letBegin :: .ref a_sort :: .ref a_column :: .ref a_low :: .ref a_high :: .ref a_by :: .ref a_top :: .ref a_begins :: .ref a_ends :: .int v_hasScript :: .int v_scriptLets :: .int v_scriptQuestions :: .ref a_scriptCode :: .ref a_scriptLetBegin :: .ref a_scriptLetEnd :: .ref a_aSort :: .ref a_aColumn :: .ref a_aLow :: .ref a_aHigh :: .ref a_aBy :: .ref a_aTop :: .ref a_aBegin :: .ref a_anEnd :: .ref a_told :: .int v_toldCount :: .ref a_out :: .int v_outs :: .ref a_goals :: .ref a_withs :: .int v_goalCount :: .ref a_pile :: .ref a_letValue :: .ref a_one :: .ref a_two :: [])), (a_budget, .inl (gI G, 5, .inl (s_Mo_budget f_budget f_spent x z).2)), (a_spent, .inl (gI G, 5, .inl f_spent))] := by
  refine Det.of (cc := b_Mo_budget) (maxL := 4) (ret := (some .int)) (by decide) rfl (Nat.le_of_ble_eq_true rfl) ?_
  intro p e s m args below meth c A ls hx hb hr hml hown hts hlocks hin hA hK hZ hP hD hS hl
  have hts : ∀ w ∈ wG, w.before args s = true := fun w h => hts w (List.mem_cons_of_mem _ h)
  have hown : s.vm.findClass R_Mo = some m.cls := hown
  have hl : lv_has ls 4 [(0, .ref h), (1, .int x), (2, .int z)] := hl
  refine lv_iload_n hx hb d_Mo_budget_0 rfl (lv_at hl 1 rfl) ?_
  refine lv_iconst (v := 0) hx hb d_Mo_budget_1 (by decide) ?_
  refine lv_iconst (v := 4) hx hb d_Mo_budget_2 (by decide) ?_
  obtain ⟨r1, hr1⟩ : ∃ r, (s_Mo_in x 0 4) = r := ⟨_, rfl⟩
  have hC_r1 := (c_Mo_in l G x 0 4)
  rw [hr1] at hC_r1
  have hf_r1_1 : isB r1 := by rw [← hr1]; exact z_Mo_in
  refine ly_callS (rest := []) (wf := [(h, .inr (12, .int v_p :: .int v_q :: .ref a_table :: .int v_rows :: .ref a_tape :: .int v_cells :: .ref a_budget :: .ref a_spent :: .ref a_text :: .int v_signs :: .ref a_kinds :: .ref a_values :: .int v_tokens :: .ref a_scriptKinds :: .ref a_scriptValues :: .int v_scriptTokens :: .int v_at :: .int v_place :: .int v_kind :: .int v_value :: .int v_depth :: .int v_asked :: .int v_lets :: .int v_questions :: .int v_statements :: .ref a_isTold :: .ref a_letOf :: .ref a_code :: .int v_size :: .ref a_letEnd :: .ref a_letBegin :: .ref a_sort :: .ref a_column :: .ref a_low :: .ref a_high :: .ref a_by :: .ref a_top :: .ref a_begins :: .ref a_ends :: .int v_hasScript :: .int v_scriptLets :: .int v_scriptQuestions :: .ref a_scriptCode :: .ref a_scriptLetBegin :: .ref a_scriptLetEnd :: .ref a_aSort :: .ref a_aColumn :: .ref a_aLow :: .ref a_aHigh :: .ref a_aBy :: .ref a_aTop :: .ref a_aBegin :: .ref a_anEnd :: .ref a_told :: .int v_toldCount :: .ref a_out :: .int v_outs :: .ref a_goals :: .ref a_withs :: .int v_goalCount :: .ref a_pile :: .ref a_letValue :: .ref a_one :: .ref a_two :: [])), (a_budget, .inl (gI G, 5, .inl f_budget)), (a_spent, .inl (gI G, 5, .inl f_spent))]) ⟨hx, hb, hml, hown, hts⟩ hA hK hZ hP hD hS hC_r1 (cwS 3 hts g_Mo_144 rfl rfl rfl (by decide +kernel) ⟨Nat.le_of_ble_eq_true rfl, Nat.le_of_ble_eq_true rfl⟩) [] rfl (by decide) rfl rfl rfl hl.1 rfl (Nat.le_of_ble_eq_true rfl) d_Mo_budget_3 ⟨Nat.le_of_ble_eq_true rfl, Nat.le_of_ble_eq_true rfl⟩ (st1 := [.int r1]) (c1 := 0) (s1 := 0) rfl rfl rfl (fun H locs hP hD hS => ?_)
  refine lv_if_ne (tgt := 12) hx hb d_Mo_budget_6 (by decide) (fun c1 => ?_) (fun c1 => ?_)
  · skip
    refine lv_iload_n hx hb d_Mo_budget_12 rfl (lv_at hl 2 rfl) ?_
    refine lv_iconst (v := 0) hx hb d_Mo_budget_13 (by decide) ?_
    refine lv_ldc (v := 1000000) hx hb hown (hts (.constant R_Mo 167 1000000) k_191) d_Mo_budget_14 ?_
    obtain ⟨r2, hr2⟩ : ∃ r, (s_Mo_in z 0 1000000) = r := ⟨_, rfl⟩
    have hC_r2 := (c_Mo_in l G z 0 1000000)
    rw [hr2] at hC_r2
    have hf_r2_1 : isB r2 := by rw [← hr2]; exact z_Mo_in
    refine ly_callS (rest := []) (wf := [(h, .inr (12, .int v_p :: .int v_q :: .ref a_table :: .int v_rows :: .ref a_tape :: .int v_cells :: .ref a_budget :: .ref a_spent :: .ref a_text :: .int v_signs :: .ref a_kinds :: .ref a_values :: .int v_tokens :: .ref a_scriptKinds :: .ref a_scriptValues :: .int v_scriptTokens :: .int v_at :: .int v_place :: .int v_kind :: .int v_value :: .int v_depth :: .int v_asked :: .int v_lets :: .int v_questions :: .int v_statements :: .ref a_isTold :: .ref a_letOf :: .ref a_code :: .int v_size :: .ref a_letEnd :: .ref a_letBegin :: .ref a_sort :: .ref a_column :: .ref a_low :: .ref a_high :: .ref a_by :: .ref a_top :: .ref a_begins :: .ref a_ends :: .int v_hasScript :: .int v_scriptLets :: .int v_scriptQuestions :: .ref a_scriptCode :: .ref a_scriptLetBegin :: .ref a_scriptLetEnd :: .ref a_aSort :: .ref a_aColumn :: .ref a_aLow :: .ref a_aHigh :: .ref a_aBy :: .ref a_aTop :: .ref a_aBegin :: .ref a_anEnd :: .ref a_told :: .int v_toldCount :: .ref a_out :: .int v_outs :: .ref a_goals :: .ref a_withs :: .int v_goalCount :: .ref a_pile :: .ref a_letValue :: .ref a_one :: .ref a_two :: [])), (a_budget, .inl (gI G, 5, .inl f_budget)), (a_spent, .inl (gI G, 5, .inl f_spent))]) ⟨hx, hb, hml, hown, hts⟩ hA hK hZ hP hD hS hC_r2 (cwS 3 hts g_Mo_144 rfl rfl rfl (by decide +kernel) ⟨Nat.le_of_ble_eq_true rfl, Nat.le_of_ble_eq_true rfl⟩) [] rfl (by decide) rfl rfl rfl hl.1 rfl (Nat.le_of_ble_eq_true rfl) d_Mo_budget_16 ⟨Nat.le_of_ble_eq_true rfl, Nat.le_of_ble_eq_true rfl⟩ (st1 := [.int r2]) (c1 := 0) (s1 := 0) rfl rfl rfl (fun H locs hP hD hS => ?_)
    refine lv_if_ne (tgt := 25) hx hb d_Mo_budget_19 (by decide) (fun c2 => ?_) (fun c2 => ?_)
    · skip
      refine lv_iload_n hx hb d_Mo_budget_25 rfl (lv_at hl 2 rfl) ?_
      refine lv_aload_n hx hb d_Mo_budget_26 rfl (lv_at hl 0 rfl) ?_
      refine va_get (D := G.1) (ci := 12) (C := R_Mo) (T := F_Mo) (N := 64) (v := .ref a_spent) hx hb hts i_Mo hown hK hP 0 rfl rfl 7 (by decide) (hts (.fieldLink R_Mo 19 "PrivateQueriesModel" "spent" "[I") k_192) (fun _ h9 => h9) rfl d_Mo_budget_27 ?_
      refine lv_iload_n hx hb d_Mo_budget_30 rfl (lv_at hl 1 rfl) ?_
      refine va_iald hx hb hK hP 2 0 rfl rfl (mo_in5 (by rw [hr1]; exact c1)) d_Mo_budget_31 ?_
      refine lv_icmp_ge (tgt := 38) hx hb d_Mo_budget_32 (by decide) (fun c3 => ?_) (fun c3 => ?_)
      · skip
        refine lv_aload_n hx hb d_Mo_budget_38 rfl (lv_at hl 0 rfl) ?_
        refine va_get (D := G.1) (ci := 12) (C := R_Mo) (T := F_Mo) (N := 64) (v := .ref a_budget) hx hb hts i_Mo hown hK hP 0 rfl rfl 6 (by decide) (hts (.fieldLink R_Mo 16 "PrivateQueriesModel" "budget" "[I") k_193) (fun _ h9 => h9) rfl d_Mo_budget_39 ?_
        refine lv_iload_n hx hb d_Mo_budget_42 rfl (lv_at hl 1 rfl) ?_
        refine va_iald hx hb hK hP 1 0 rfl rfl (mo_in5 (by rw [hr1]; exact c1)) d_Mo_budget_43 ?_
        refine lv_istore_n (lv' := [(3, .int (f_budget x.toNatClampNeg)), (0, .ref h), (1, .int x), (2, .int z)]) hx hb d_Mo_budget_44 rfl hl (by decide) rfl (fun ls hl => ?_)
        refine lv_aload_n hx hb d_Mo_budget_45 rfl (lv_at hl 1 rfl) ?_
        refine va_get (D := G.1) (ci := 12) (C := R_Mo) (T := F_Mo) (N := 64) (v := .ref a_budget) hx hb hts i_Mo hown hK hP 0 rfl rfl 6 (by decide) (hts (.fieldLink R_Mo 16 "PrivateQueriesModel" "budget" "[I") k_193) (fun _ h9 => h9) rfl d_Mo_budget_46 ?_
        refine lv_iload_n hx hb d_Mo_budget_49 rfl (lv_at hl 2 rfl) ?_
        refine lv_iload_n hx hb d_Mo_budget_50 rfl (lv_at hl 3 rfl) ?_
        refine va_iast hx hb hK hP hD hS 1 0 rfl rfl (mo_in5 (by rw [hr1]; exact c1)) d_Mo_budget_51 (fun H locs hP hD hS => ?_)
        have hP : va_P G.1 classes [(h, .inr (12, .int v_p :: .int v_q :: .ref a_table :: .int v_rows :: .ref a_tape :: .int v_cells :: .ref a_budget :: .ref a_spent :: .ref a_text :: .int v_signs :: .ref a_kinds :: .ref a_values :: .int v_tokens :: .ref a_scriptKinds :: .ref a_scriptValues :: .int v_scriptTokens :: .int v_at :: .int v_place :: .int v_kind :: .int v_value :: .int v_depth :: .int v_asked :: .int v_lets :: .int v_questions :: .int v_statements :: .ref a_isTold :: .ref a_letOf :: .ref a_code :: .int v_size :: .ref a_letEnd :: .ref a_letBegin :: .ref a_sort :: .ref a_column :: .ref a_low :: .ref a_high :: .ref a_by :: .ref a_top :: .ref a_begins :: .ref a_ends :: .int v_hasScript :: .int v_scriptLets :: .int v_scriptQuestions :: .ref a_scriptCode :: .ref a_scriptLetBegin :: .ref a_scriptLetEnd :: .ref a_aSort :: .ref a_aColumn :: .ref a_aLow :: .ref a_aHigh :: .ref a_aBy :: .ref a_aTop :: .ref a_aBegin :: .ref a_anEnd :: .ref a_told :: .int v_toldCount :: .ref a_out :: .int v_outs :: .ref a_goals :: .ref a_withs :: .int v_goalCount :: .ref a_pile :: .ref a_letValue :: .ref a_one :: .ref a_two :: [])), (a_budget, .inl (gI G, 5, .inl (upd f_budget x.toNatClampNeg z))), (a_spent, .inl (gI G, 5, .inl f_spent))] H := hP
        have hD : va_D A [(h, .inr (12, .int v_p :: .int v_q :: .ref a_table :: .int v_rows :: .ref a_tape :: .int v_cells :: .ref a_budget :: .ref a_spent :: .ref a_text :: .int v_signs :: .ref a_kinds :: .ref a_values :: .int v_tokens :: .ref a_scriptKinds :: .ref a_scriptValues :: .int v_scriptTokens :: .int v_at :: .int v_place :: .int v_kind :: .int v_value :: .int v_depth :: .int v_asked :: .int v_lets :: .int v_questions :: .int v_statements :: .ref a_isTold :: .ref a_letOf :: .ref a_code :: .int v_size :: .ref a_letEnd :: .ref a_letBegin :: .ref a_sort :: .ref a_column :: .ref a_low :: .ref a_high :: .ref a_by :: .ref a_top :: .ref a_begins :: .ref a_ends :: .int v_hasScript :: .int v_scriptLets :: .int v_scriptQuestions :: .ref a_scriptCode :: .ref a_scriptLetBegin :: .ref a_scriptLetEnd :: .ref a_aSort :: .ref a_aColumn :: .ref a_aLow :: .ref a_aHigh :: .ref a_aBy :: .ref a_aTop :: .ref a_aBegin :: .ref a_anEnd :: .ref a_told :: .int v_toldCount :: .ref a_out :: .int v_outs :: .ref a_goals :: .ref a_withs :: .int v_goalCount :: .ref a_pile :: .ref a_letValue :: .ref a_one :: .ref a_two :: [])), (a_budget, .inl (gI G, 5, .inl (upd f_budget x.toNatClampNeg z))), (a_spent, .inl (gI G, 5, .inl f_spent))] := hD
        refine lv_iload_n hx hb d_Mo_budget_52 rfl (lv_at hl 0 rfl) ?_
        exact ly_iret hx hb hr hlocks hP hD hS d_Mo_budget_53 (by rw [s_Mo_budget] <;> simp only [hr1, hr2] <;> rw [if_neg c1, if_neg c2, if_pos c3]) (by rw [s_Mo_budget] <;> simp only [hr1, hr2] <;> rw [if_neg c1, if_neg c2, if_pos c3])
      refine lv_bipush (v := (-103)) hx hb d_Mo_budget_35 (by decide) ?_
      exact ly_iret hx hb hr hlocks hP hD hS d_Mo_budget_37 (by rw [s_Mo_budget] <;> simp only [hr1, hr2] <;> rw [if_neg c1, if_neg c2, if_neg c3]) (by rw [s_Mo_budget] <;> simp only [hr1, hr2] <;> rw [if_neg c1, if_neg c2, if_neg c3])
    refine lv_bipush (v := (-102)) hx hb d_Mo_budget_22 (by decide) ?_
    exact ly_iret hx hb hr hlocks hP hD hS d_Mo_budget_24 (by rw [s_Mo_budget] <;> simp only [hr1, hr2] <;> rw [if_neg c1, if_pos c2]) (by rw [s_Mo_budget] <;> simp only [hr1, hr2] <;> rw [if_neg c1, if_pos c2])
  refine lv_bipush (v := (-101)) hx hb d_Mo_budget_9 (by decide) ?_
  exact ly_iret hx hb hr hlocks hP hD hS d_Mo_budget_11 (by rw [s_Mo_budget] <;> simp only [hr1] <;> rw [if_pos c1]) (by rw [s_Mo_budget] <;> simp only [hr1] <;> rw [if_pos c1])

set_option maxHeartbeats 4000000 in
set_option maxRecDepth 100000 in
theorem c_Mo_ledger (l : Launch) (G : GG) (h : Nat) (a_table : Nat) (a_tape : Nat) (a_budget : Nat) (a_spent : Nat) (a_text : Nat) (a_kinds : Nat) (a_values : Nat) (a_scriptKinds : Nat) (a_scriptValues : Nat) (a_isTold : Nat) (a_letOf : Nat) (a_code : Nat) (a_letEnd : Nat) (a_letBegin : Nat) (a_sort : Nat) (a_column : Nat) (a_low : Nat) (a_high : Nat) (a_by : Nat) (a_top : Nat) (a_begins : Nat) (a_ends : Nat) (a_scriptCode : Nat) (a_scriptLetBegin : Nat) (a_scriptLetEnd : Nat) (a_aSort : Nat) (a_aColumn : Nat) (a_aLow : Nat) (a_aHigh : Nat) (a_aBy : Nat) (a_aTop : Nat) (a_aBegin : Nat) (a_anEnd : Nat) (a_told : Nat) (a_out : Nat) (a_goals : Nat) (a_withs : Nat) (a_pile : Nat) (a_letValue : Nat) (a_one : Nat) (a_two : Nat) (v_p : Int32) (v_q : Int32) (v_rows : Int32) (v_cells : Int32) (f_budget : Nat → Int32) (f_spent : Nat → Int32) (v_signs : Int32) (v_tokens : Int32) (v_scriptTokens : Int32) (v_at : Int32) (v_place : Int32) (v_kind : Int32) (v_value : Int32) (v_depth : Int32) (v_asked : Int32) (v_lets : Int32) (v_questions : Int32) (v_statements : Int32) (v_size : Int32) (v_hasScript : Int32) (v_scriptLets : Int32) (v_scriptQuestions : Int32) (v_toldCount : Int32) (v_outs : Int32) (v_goalCount : Int32) (x : Int32) (z : Int32) : Det l G y_Mo_ledger w_Mo_ledger (rmD 1) 0 0 [.ref h, .int x, .int z] [(h, .inr (12, .int v_p :: .int v_q :: .ref a_table :: .int v_rows :: .ref a_tape :: .int v_cells :: .ref a_budget :: .ref a_spent :: .ref a_text :: .int v_signs :: .ref a_kinds :: .ref a_values :: .int v_tokens :: .ref a_scriptKinds :: .ref a_scriptValues :: .int v_scriptTokens :: .int v_at :: .int v_place :: .int v_kind :: .int v_value :: .int v_depth :: .int v_asked :: .int v_lets :: .int v_questions :: .int v_statements :: .ref a_isTold :: .ref a_letOf :: .ref a_code :: .int v_size :: .ref a_letEnd :: .ref a_letBegin :: .ref a_sort :: .ref a_column :: .ref a_low :: .ref a_high :: .ref a_by :: .ref a_top :: .ref a_begins :: .ref a_ends :: .int v_hasScript :: .int v_scriptLets :: .int v_scriptQuestions :: .ref a_scriptCode :: .ref a_scriptLetBegin :: .ref a_scriptLetEnd :: .ref a_aSort :: .ref a_aColumn :: .ref a_aLow :: .ref a_aHigh :: .ref a_aBy :: .ref a_aTop :: .ref a_aBegin :: .ref a_anEnd :: .ref a_told :: .int v_toldCount :: .ref a_out :: .int v_outs :: .ref a_goals :: .ref a_withs :: .int v_goalCount :: .ref a_pile :: .ref a_letValue :: .ref a_one :: .ref a_two :: [])), (a_budget, .inl (gI G, 5, .inl f_budget)), (a_spent, .inl (gI G, 5, .inl f_spent))] (some (.int (s_Mo_ledger f_budget f_spent x z))) [(h, .inr (12, .int v_p :: .int v_q :: .ref a_table :: .int v_rows :: .ref a_tape :: .int v_cells :: .ref a_budget :: .ref a_spent :: .ref a_text :: .int v_signs :: .ref a_kinds :: .ref a_values :: .int v_tokens :: .ref a_scriptKinds :: .ref a_scriptValues :: .int v_scriptTokens :: .int v_at :: .int v_place :: .int v_kind :: .int v_value :: .int v_depth :: .int v_asked :: .int v_lets :: .int v_questions :: .int v_statements :: .ref a_isTold :: .ref a_letOf :: .ref a_code :: .int v_size :: .ref a_letEnd :: .ref a_letBegin :: .ref a_sort :: .ref a_column :: .ref a_low :: .ref a_high :: .ref a_by :: .ref a_top :: .ref a_begins :: .ref a_ends :: .int v_hasScript :: .int v_scriptLets :: .int v_scriptQuestions :: .ref a_scriptCode :: .ref a_scriptLetBegin :: .ref a_scriptLetEnd :: .ref a_aSort :: .ref a_aColumn :: .ref a_aLow :: .ref a_aHigh :: .ref a_aBy :: .ref a_aTop :: .ref a_aBegin :: .ref a_anEnd :: .ref a_told :: .int v_toldCount :: .ref a_out :: .int v_outs :: .ref a_goals :: .ref a_withs :: .int v_goalCount :: .ref a_pile :: .ref a_letValue :: .ref a_one :: .ref a_two :: [])), (a_budget, .inl (gI G, 5, .inl f_budget)), (a_spent, .inl (gI G, 5, .inl f_spent))] := by
  refine Det.of (cc := b_Mo_ledger) (maxL := 3) (ret := (some .int)) (by decide) rfl (Nat.le_of_ble_eq_true rfl) ?_
  intro p e s m args below meth c A ls hx hb hr hml hown hts hlocks hin hA hK hZ hP hD hS hl
  have hts : ∀ w ∈ wG, w.before args s = true := fun w h => hts w (List.mem_cons_of_mem _ h)
  have hown : s.vm.findClass R_Mo = some m.cls := hown
  have hl : lv_has ls 3 [(0, .ref h), (1, .int x), (2, .int z)] := hl
  refine lv_iload_n hx hb d_Mo_ledger_0 rfl (lv_at hl 1 rfl) ?_
  refine lv_iconst (v := 0) hx hb d_Mo_ledger_1 (by decide) ?_
  refine lv_iconst (v := 4) hx hb d_Mo_ledger_2 (by decide) ?_
  obtain ⟨r1, hr1⟩ : ∃ r, (s_Mo_in x 0 4) = r := ⟨_, rfl⟩
  have hC_r1 := (c_Mo_in l G x 0 4)
  rw [hr1] at hC_r1
  have hf_r1_1 : isB r1 := by rw [← hr1]; exact z_Mo_in
  refine ly_callS (rest := []) (wf := [(h, .inr (12, .int v_p :: .int v_q :: .ref a_table :: .int v_rows :: .ref a_tape :: .int v_cells :: .ref a_budget :: .ref a_spent :: .ref a_text :: .int v_signs :: .ref a_kinds :: .ref a_values :: .int v_tokens :: .ref a_scriptKinds :: .ref a_scriptValues :: .int v_scriptTokens :: .int v_at :: .int v_place :: .int v_kind :: .int v_value :: .int v_depth :: .int v_asked :: .int v_lets :: .int v_questions :: .int v_statements :: .ref a_isTold :: .ref a_letOf :: .ref a_code :: .int v_size :: .ref a_letEnd :: .ref a_letBegin :: .ref a_sort :: .ref a_column :: .ref a_low :: .ref a_high :: .ref a_by :: .ref a_top :: .ref a_begins :: .ref a_ends :: .int v_hasScript :: .int v_scriptLets :: .int v_scriptQuestions :: .ref a_scriptCode :: .ref a_scriptLetBegin :: .ref a_scriptLetEnd :: .ref a_aSort :: .ref a_aColumn :: .ref a_aLow :: .ref a_aHigh :: .ref a_aBy :: .ref a_aTop :: .ref a_aBegin :: .ref a_anEnd :: .ref a_told :: .int v_toldCount :: .ref a_out :: .int v_outs :: .ref a_goals :: .ref a_withs :: .int v_goalCount :: .ref a_pile :: .ref a_letValue :: .ref a_one :: .ref a_two :: [])), (a_budget, .inl (gI G, 5, .inl f_budget)), (a_spent, .inl (gI G, 5, .inl f_spent))]) ⟨hx, hb, hml, hown, hts⟩ hA hK hZ hP hD hS hC_r1 (cwS 3 hts g_Mo_144 rfl rfl rfl (by decide +kernel) ⟨Nat.le_of_ble_eq_true rfl, Nat.le_of_ble_eq_true rfl⟩) [] rfl (by decide) rfl rfl rfl hl.1 rfl (Nat.le_of_ble_eq_true rfl) d_Mo_ledger_3 ⟨Nat.le_of_ble_eq_true rfl, Nat.le_of_ble_eq_true rfl⟩ (st1 := [.int r1]) (c1 := 0) (s1 := 0) rfl rfl rfl (fun H locs hP hD hS => ?_)
  refine lv_if_ne (tgt := 12) hx hb d_Mo_ledger_6 (by decide) (fun c1 => ?_) (fun c1 => ?_)
  · skip
    refine lv_iload_n hx hb d_Mo_ledger_12 rfl (lv_at hl 2 rfl) ?_
    refine lv_if_ne (tgt := 25) hx hb d_Mo_ledger_13 (by decide) (fun c2 => ?_) (fun c2 => ?_)
    · skip
      refine lv_iload_n hx hb d_Mo_ledger_25 rfl (lv_at hl 2 rfl) ?_
      refine lv_iconst (v := 1) hx hb d_Mo_ledger_26 (by decide) ?_
      refine lv_icmp_ne (tgt := 46) hx hb d_Mo_ledger_27 (by decide) (fun c3 => ?_) (fun c3 => ?_)
      · skip
        refine lv_bipush (v := (-102)) hx hb d_Mo_ledger_46 (by decide) ?_
        exact ly_iret hx hb hr hlocks hP hD hS d_Mo_ledger_48 (by rw [s_Mo_ledger] <;> simp only [hr1] <;> rw [if_neg c1, if_neg c2, if_neg c3]) rfl
      refine lv_aload_n hx hb d_Mo_ledger_30 rfl (lv_at hl 0 rfl) ?_
      refine va_get (D := G.1) (ci := 12) (C := R_Mo) (T := F_Mo) (N := 64) (v := .ref a_budget) hx hb hts i_Mo hown hK hP 0 rfl rfl 6 (by decide) (hts (.fieldLink R_Mo 16 "PrivateQueriesModel" "budget" "[I") k_193) (fun _ h9 => h9) rfl d_Mo_ledger_31 ?_
      refine lv_iload_n hx hb d_Mo_ledger_34 rfl (lv_at hl 1 rfl) ?_
      refine va_iald hx hb hK hP 1 0 rfl rfl (mo_in5 (by rw [hr1]; exact c1)) d_Mo_ledger_35 ?_
      refine lv_aload_n hx hb d_Mo_ledger_36 rfl (lv_at hl 0 rfl) ?_
      refine va_get (D := G.1) (ci := 12) (C := R_Mo) (T := F_Mo) (N := 64) (v := .ref a_spent) hx hb hts i_Mo hown hK hP 0 rfl rfl 7 (by decide) (hts (.fieldLink R_Mo 19 "PrivateQueriesModel" "spent" "[I") k_192) (fun _ h9 => h9) rfl d_Mo_ledger_37 ?_
      refine lv_iload_n hx hb d_Mo_ledger_40 rfl (lv_at hl 1 rfl) ?_
      refine va_iald hx hb hK hP 2 0 rfl rfl (mo_in5 (by rw [hr1]; exact c1)) d_Mo_ledger_41 ?_
      refine lv_isub hx hb d_Mo_ledger_42 ?_
      refine lv_goto (tgt := 48) hx hb d_Mo_ledger_43 (by decide) ?_
      exact ly_iret hx hb hr hlocks hP hD hS d_Mo_ledger_48 (by rw [s_Mo_ledger] <;> simp only [hr1] <;> rw [if_neg c1, if_neg c2, if_pos c3]) rfl
    refine lv_aload_n hx hb d_Mo_ledger_16 rfl (lv_at hl 0 rfl) ?_
    refine va_get (D := G.1) (ci := 12) (C := R_Mo) (T := F_Mo) (N := 64) (v := .ref a_spent) hx hb hts i_Mo hown hK hP 0 rfl rfl 7 (by decide) (hts (.fieldLink R_Mo 19 "PrivateQueriesModel" "spent" "[I") k_192) (fun _ h9 => h9) rfl d_Mo_ledger_17 ?_
    refine lv_iload_n hx hb d_Mo_ledger_20 rfl (lv_at hl 1 rfl) ?_
    refine va_iald hx hb hK hP 2 0 rfl rfl (mo_in5 (by rw [hr1]; exact c1)) d_Mo_ledger_21 ?_
    refine lv_goto (tgt := 48) hx hb d_Mo_ledger_22 (by decide) ?_
    exact ly_iret hx hb hr hlocks hP hD hS d_Mo_ledger_48 (by rw [s_Mo_ledger] <;> simp only [hr1] <;> rw [if_neg c1, if_pos c2]) rfl
  refine lv_bipush (v := (-101)) hx hb d_Mo_ledger_9 (by decide) ?_
  exact ly_iret hx hb hr hlocks hP hD hS d_Mo_ledger_11 (by rw [s_Mo_ledger] <;> simp only [hr1] <;> rw [if_pos c1]) rfl
