theorem d_Mo_look_0 : decode b_Mo_look 0 = .ok (.aload_n 0, 1) := by decide +kernel
theorem d_Mo_look_1 : decode b_Mo_look 1 = .ok (.getfield 181, 3) := by decide +kernel
theorem d_Mo_look_4 : decode b_Mo_look 4 = .ok (.aload_n 0, 1) := by decide +kernel
theorem d_Mo_look_5 : decode b_Mo_look 5 = .ok (.getfield 155, 3) := by decide +kernel
theorem d_Mo_look_8 : decode b_Mo_look 8 = .ok (.if_icmp .ge 30, 3) := by decide +kernel
theorem d_Mo_look_11 : decode b_Mo_look 11 = .ok (.aload_n 0, 1) := by decide +kernel
theorem d_Mo_look_12 : decode b_Mo_look 12 = .ok (.getfield 22, 3) := by decide +kernel
theorem d_Mo_look_15 : decode b_Mo_look 15 = .ok (.aload_n 0, 1) := by decide +kernel
theorem d_Mo_look_16 : decode b_Mo_look 16 = .ok (.getfield 181, 3) := by decide +kernel
theorem d_Mo_look_19 : decode b_Mo_look 19 = .ok (.iaload, 1) := by decide +kernel
theorem d_Mo_look_20 : decode b_Mo_look 20 = .ok (.bipush 32, 2) := by decide +kernel
theorem d_Mo_look_22 : decode b_Mo_look 22 = .ok (.if_icmp .ne 16, 3) := by decide +kernel
theorem d_Mo_look_25 : decode b_Mo_look 25 = .ok (.aload_n 0, 1) := by decide +kernel
theorem d_Mo_look_26 : decode b_Mo_look 26 = .ok (.dup, 1) := by decide +kernel
theorem d_Mo_look_27 : decode b_Mo_look 27 = .ok (.getfield 181, 3) := by decide +kernel
theorem d_Mo_look_30 : decode b_Mo_look 30 = .ok (.iconst 1, 1) := by decide +kernel
theorem d_Mo_look_31 : decode b_Mo_look 31 = .ok (.iadd, 1) := by decide +kernel
theorem d_Mo_look_32 : decode b_Mo_look 32 = .ok (.putfield 181, 3) := by decide +kernel
theorem d_Mo_look_35 : decode b_Mo_look 35 = .ok (.goto (-35), 3) := by decide +kernel
theorem d_Mo_look_38 : decode b_Mo_look 38 = .ok (.aload_n 0, 1) := by decide +kernel
theorem d_Mo_look_39 : decode b_Mo_look 39 = .ok (.aload_n 0, 1) := by decide +kernel
theorem d_Mo_look_40 : decode b_Mo_look 40 = .ok (.getfield 181, 3) := by decide +kernel
theorem d_Mo_look_43 : decode b_Mo_look 43 = .ok (.putfield 202, 3) := by decide +kernel
theorem d_Mo_look_46 : decode b_Mo_look 46 = .ok (.aload_n 0, 1) := by decide +kernel
theorem d_Mo_look_47 : decode b_Mo_look 47 = .ok (.iconst 0, 1) := by decide +kernel
theorem d_Mo_look_48 : decode b_Mo_look 48 = .ok (.putfield 170, 3) := by decide +kernel
theorem d_Mo_look_51 : decode b_Mo_look 51 = .ok (.aload_n 0, 1) := by decide +kernel
theorem d_Mo_look_52 : decode b_Mo_look 52 = .ok (.getfield 181, 3) := by decide +kernel
theorem d_Mo_look_55 : decode b_Mo_look 55 = .ok (.aload_n 0, 1) := by decide +kernel
theorem d_Mo_look_56 : decode b_Mo_look 56 = .ok (.getfield 155, 3) := by decide +kernel
theorem d_Mo_look_59 : decode b_Mo_look 59 = .ok (.if_icmp .ne 10, 3) := by decide +kernel
theorem d_Mo_look_62 : decode b_Mo_look 62 = .ok (.aload_n 0, 1) := by decide +kernel
theorem d_Mo_look_63 : decode b_Mo_look 63 = .ok (.bipush 30, 2) := by decide +kernel
theorem d_Mo_look_65 : decode b_Mo_look 65 = .ok (.putfield 188, 3) := by decide +kernel
theorem d_Mo_look_68 : decode b_Mo_look 68 = .ok (.return_, 1) := by decide +kernel
theorem d_Mo_look_69 : decode b_Mo_look 69 = .ok (.aload_n 0, 1) := by decide +kernel
theorem d_Mo_look_70 : decode b_Mo_look 70 = .ok (.getfield 22, 3) := by decide +kernel
theorem d_Mo_look_73 : decode b_Mo_look 73 = .ok (.aload_n 0, 1) := by decide +kernel
theorem d_Mo_look_74 : decode b_Mo_look 74 = .ok (.getfield 181, 3) := by decide +kernel
theorem d_Mo_look_77 : decode b_Mo_look 77 = .ok (.iaload, 1) := by decide +kernel
theorem d_Mo_look_78 : decode b_Mo_look 78 = .ok (.istore_n 1, 1) := by decide +kernel
theorem d_Mo_look_79 : decode b_Mo_look 79 = .ok (.iload_n 1, 1) := by decide +kernel
theorem d_Mo_look_80 : decode b_Mo_look 80 = .ok (.invokestatic 205, 3) := by decide +kernel
theorem d_Mo_look_83 : decode b_Mo_look 83 = .ok (.ifCond .eq 61, 3) := by decide +kernel
theorem d_Mo_look_86 : decode b_Mo_look 86 = .ok (.aload_n 0, 1) := by decide +kernel
theorem d_Mo_look_87 : decode b_Mo_look 87 = .ok (.getfield 181, 3) := by decide +kernel
theorem d_Mo_look_90 : decode b_Mo_look 90 = .ok (.aload_n 0, 1) := by decide +kernel
theorem d_Mo_look_91 : decode b_Mo_look 91 = .ok (.getfield 155, 3) := by decide +kernel
theorem d_Mo_look_94 : decode b_Mo_look 94 = .ok (.if_icmp .ge 31, 3) := by decide +kernel
theorem d_Mo_look_97 : decode b_Mo_look 97 = .ok (.aload_n 0, 1) := by decide +kernel
theorem d_Mo_look_98 : decode b_Mo_look 98 = .ok (.getfield 22, 3) := by decide +kernel
theorem d_Mo_look_101 : decode b_Mo_look 101 = .ok (.aload_n 0, 1) := by decide +kernel
theorem d_Mo_look_102 : decode b_Mo_look 102 = .ok (.getfield 181, 3) := by decide +kernel
theorem d_Mo_look_105 : decode b_Mo_look 105 = .ok (.iaload, 1) := by decide +kernel
theorem d_Mo_look_106 : decode b_Mo_look 106 = .ok (.invokestatic 205, 3) := by decide +kernel
theorem d_Mo_look_109 : decode b_Mo_look 109 = .ok (.ifCond .eq 16, 3) := by decide +kernel
theorem d_Mo_look_112 : decode b_Mo_look 112 = .ok (.aload_n 0, 1) := by decide +kernel
theorem d_Mo_look_113 : decode b_Mo_look 113 = .ok (.dup, 1) := by decide +kernel
theorem d_Mo_look_114 : decode b_Mo_look 114 = .ok (.getfield 181, 3) := by decide +kernel
theorem d_Mo_look_117 : decode b_Mo_look 117 = .ok (.iconst 1, 1) := by decide +kernel
theorem d_Mo_look_118 : decode b_Mo_look 118 = .ok (.iadd, 1) := by decide +kernel
theorem d_Mo_look_119 : decode b_Mo_look 119 = .ok (.putfield 181, 3) := by decide +kernel
theorem d_Mo_look_122 : decode b_Mo_look 122 = .ok (.goto (-36), 3) := by decide +kernel
theorem d_Mo_look_125 : decode b_Mo_look 125 = .ok (.aload_n 0, 1) := by decide +kernel
theorem d_Mo_look_126 : decode b_Mo_look 126 = .ok (.aload_n 0, 1) := by decide +kernel
theorem d_Mo_look_127 : decode b_Mo_look 127 = .ok (.aload_n 0, 1) := by decide +kernel
theorem d_Mo_look_128 : decode b_Mo_look 128 = .ok (.getfield 202, 3) := by decide +kernel
theorem d_Mo_look_131 : decode b_Mo_look 131 = .ok (.aload_n 0, 1) := by decide +kernel
theorem d_Mo_look_132 : decode b_Mo_look 132 = .ok (.getfield 181, 3) := by decide +kernel
theorem d_Mo_look_135 : decode b_Mo_look 135 = .ok (.invokevirtual 208, 3) := by decide +kernel
theorem d_Mo_look_138 : decode b_Mo_look 138 = .ok (.putfield 188, 3) := by decide +kernel
theorem d_Mo_look_141 : decode b_Mo_look 141 = .ok (.goto 55, 3) := by decide +kernel
theorem d_Mo_look_144 : decode b_Mo_look 144 = .ok (.iload_n 1, 1) := by decide +kernel
theorem d_Mo_look_145 : decode b_Mo_look 145 = .ok (.invokestatic 191, 3) := by decide +kernel
theorem d_Mo_look_148 : decode b_Mo_look 148 = .ok (.ifCond .eq 10, 3) := by decide +kernel
theorem d_Mo_look_151 : decode b_Mo_look 151 = .ok (.aload_n 0, 1) := by decide +kernel
theorem d_Mo_look_152 : decode b_Mo_look 152 = .ok (.invokevirtual 211, 3) := by decide +kernel
theorem d_Mo_look_155 : decode b_Mo_look 155 = .ok (.goto 41, 3) := by decide +kernel
theorem d_Mo_look_158 : decode b_Mo_look 158 = .ok (.iload_n 1, 1) := by decide +kernel
theorem d_Mo_look_159 : decode b_Mo_look 159 = .ok (.bipush 60, 2) := by decide +kernel
theorem d_Mo_look_161 : decode b_Mo_look 161 = .ok (.if_icmp .eq 9, 3) := by decide +kernel
theorem d_Mo_look_164 : decode b_Mo_look 164 = .ok (.iload_n 1, 1) := by decide +kernel
theorem d_Mo_look_165 : decode b_Mo_look 165 = .ok (.bipush 62, 2) := by decide +kernel
theorem d_Mo_look_167 : decode b_Mo_look 167 = .ok (.if_icmp .ne 10, 3) := by decide +kernel
theorem d_Mo_look_170 : decode b_Mo_look 170 = .ok (.aload_n 0, 1) := by decide +kernel
theorem d_Mo_look_171 : decode b_Mo_look 171 = .ok (.invokevirtual 214, 3) := by decide +kernel
theorem d_Mo_look_174 : decode b_Mo_look 174 = .ok (.goto 22, 3) := by decide +kernel
theorem d_Mo_look_177 : decode b_Mo_look 177 = .ok (.aload_n 0, 1) := by decide +kernel
theorem d_Mo_look_178 : decode b_Mo_look 178 = .ok (.aload_n 0, 1) := by decide +kernel
theorem d_Mo_look_179 : decode b_Mo_look 179 = .ok (.iload_n 1, 1) := by decide +kernel
theorem d_Mo_look_180 : decode b_Mo_look 180 = .ok (.invokevirtual 217, 3) := by decide +kernel
theorem d_Mo_look_183 : decode b_Mo_look 183 = .ok (.putfield 188, 3) := by decide +kernel
theorem d_Mo_look_186 : decode b_Mo_look 186 = .ok (.aload_n 0, 1) := by decide +kernel
theorem d_Mo_look_187 : decode b_Mo_look 187 = .ok (.dup, 1) := by decide +kernel
theorem d_Mo_look_188 : decode b_Mo_look 188 = .ok (.getfield 181, 3) := by decide +kernel
theorem d_Mo_look_191 : decode b_Mo_look 191 = .ok (.iconst 1, 1) := by decide +kernel
theorem d_Mo_look_192 : decode b_Mo_look 192 = .ok (.iadd, 1) := by decide +kernel
theorem d_Mo_look_193 : decode b_Mo_look 193 = .ok (.putfield 181, 3) := by decide +kernel
theorem d_Mo_look_196 : decode b_Mo_look 196 = .ok (.return_, 1) := by decide +kernel
theorem k_217 : (.fieldLink R_Mo 202 "PrivateQueriesModel" "place" "I" : Cond) ∈ wG := wGm 982 (by decide +kernel) (by decide +kernel)
theorem k_218 : (.methodLink R_Mo 205 y_Mo_isSmall : Cond) ∈ wG := wGm 1203 (by decide +kernel) (by decide +kernel)
theorem k_219 : (.static y_Mo_isSmall : Cond) ∈ wG := wGm 1204 (by decide +kernel) (by decide +kernel)
theorem k_220 : (.code y_Mo_isSmall b_Mo_isSmall 1 (some .boolean) : Cond) ∈ wG := wGm 1205 (by decide +kernel) (by decide +kernel)
theorem k_221 : (.methodLink R_Mo 214 y_Mo_compareSign : Cond) ∈ wG := wGm 1228 (by decide +kernel) (by decide +kernel)
theorem k_222 : (.instanceMethod y_Mo_compareSign : Cond) ∈ wG := wGm 1230 (by decide +kernel) (by decide +kernel)
theorem k_223 : (.selects R_Mo y_Mo_compareSign y_Mo_compareSign : Cond) ∈ wG := wGm 39 (by decide +kernel) (by decide +kernel)
theorem k_224 : (.code y_Mo_compareSign b_Mo_compareSign 2 none : Cond) ∈ wG := wGm 1231 (by decide +kernel) (by decide +kernel)
theorem k_225 : (.methodLink R_Mo 217 y_Mo_signKind : Cond) ∈ wG := wGm 1236 (by decide +kernel) (by decide +kernel)
theorem k_226 : (.instanceMethod y_Mo_signKind : Cond) ∈ wG := wGm 1238 (by decide +kernel) (by decide +kernel)
theorem k_227 : (.selects R_Mo y_Mo_signKind y_Mo_signKind : Cond) ∈ wG := wGm 41 (by decide +kernel) (by decide +kernel)
theorem k_228 : (.code y_Mo_signKind b_Mo_signKind 2 (some .int) : Cond) ∈ wG := wGm 1239 (by decide +kernel) (by decide +kernel)
theorem k_229 : (.methodLink R_Mo 211 y_Mo_readNumber : Cond) ∈ wG := wGm 1220 (by decide +kernel) (by decide +kernel)
theorem k_230 : (.instanceMethod y_Mo_readNumber : Cond) ∈ wG := wGm 1222 (by decide +kernel) (by decide +kernel)
theorem k_231 : (.selects R_Mo y_Mo_readNumber y_Mo_readNumber : Cond) ∈ wG := wGm 38 (by decide +kernel) (by decide +kernel)
theorem k_232 : (.code y_Mo_readNumber b_Mo_readNumber 3 none : Cond) ∈ wG := wGm 1223 (by decide +kernel) (by decide +kernel)
theorem k_233 : (.methodLink R_Mo 208 y_Mo_classify : Cond) ∈ wG := wGm 1206 (by decide +kernel) (by decide +kernel)
theorem k_234 : (.instanceMethod y_Mo_classify : Cond) ∈ wG := wGm 1208 (by decide +kernel) (by decide +kernel)
theorem k_235 : (.selects R_Mo y_Mo_classify y_Mo_classify : Cond) ∈ wG := wGm 36 (by decide +kernel) (by decide +kernel)
theorem k_236 : (.code y_Mo_classify b_Mo_classify 4 (some .int) : Cond) ∈ wG := wGm 1209 (by decide +kernel) (by decide +kernel)
theorem g_Mo_205 : GoodIn wG (wsS R_Mo 205 y_Mo_isSmall w_Mo_isSmall) := wGa (fun w hw => by
  rcases List.mem_cons.mp hw with e | hw
  · exact e ▸ k_218
  rcases List.mem_cons.mp hw with e | hw
  · exact e ▸ k_219
  rcases List.mem_cons.mp hw with e | hw
  · exact e ▸ k_185
  · exact absurd hw List.not_mem_nil) (wGc k_220)
theorem g_Mo_214 : GoodIn wG (wsV R_Mo 214 R_Mo y_Mo_compareSign w_Mo_compareSign) := wGa (fun w hw => by
  rcases List.mem_cons.mp hw with e | hw
  · exact e ▸ k_221
  rcases List.mem_cons.mp hw with e | hw
  · exact e ▸ k_222
  rcases List.mem_cons.mp hw with e | hw
  · exact e ▸ k_223
  rcases List.mem_cons.mp hw with e | hw
  · exact e ▸ k_185
  · exact absurd hw List.not_mem_nil) (wGc k_224)
theorem g_Mo_217 : GoodIn wG (wsV R_Mo 217 R_Mo y_Mo_signKind w_Mo_signKind) := wGa (fun w hw => by
  rcases List.mem_cons.mp hw with e | hw
  · exact e ▸ k_225
  rcases List.mem_cons.mp hw with e | hw
  · exact e ▸ k_226
  rcases List.mem_cons.mp hw with e | hw
  · exact e ▸ k_227
  rcases List.mem_cons.mp hw with e | hw
  · exact e ▸ k_185
  · exact absurd hw List.not_mem_nil) (wGc k_228)
theorem g_Mo_211 : GoodIn wG (wsV R_Mo 211 R_Mo y_Mo_readNumber w_Mo_readNumber) := wGa (fun w hw => by
  rcases List.mem_cons.mp hw with e | hw
  · exact e ▸ k_229
  rcases List.mem_cons.mp hw with e | hw
  · exact e ▸ k_230
  rcases List.mem_cons.mp hw with e | hw
  · exact e ▸ k_231
  rcases List.mem_cons.mp hw with e | hw
  · exact e ▸ k_185
  · exact absurd hw List.not_mem_nil) (wGc k_232)
theorem g_Mo_208 : GoodIn wG (wsV R_Mo 208 R_Mo y_Mo_classify w_Mo_classify) := wGa (fun w hw => by
  rcases List.mem_cons.mp hw with e | hw
  · exact e ▸ k_233
  rcases List.mem_cons.mp hw with e | hw
  · exact e ▸ k_234
  rcases List.mem_cons.mp hw with e | hw
  · exact e ▸ k_235
  rcases List.mem_cons.mp hw with e | hw
  · exact e ▸ k_185
  · exact absurd hw List.not_mem_nil) (wGc k_236)
def lp_Mo_look_0 (f_text : Nat → Int32) (v_signs : Int32) : Nat → Int32 → Int32
  | 0, a => a
  | n + 1, a =>
    if v_signs ≤ a then a
    else if (f_text a.toNatClampNeg) = 32 then (lp_Mo_look_0 f_text v_signs n (a + 1))
    else a
def lp_Mo_look_86 (f_text : Nat → Int32) (v_signs : Int32) : Nat → Int32 → Int32 → Int32 → Int32 → Int32
  | 0, _, a2, _, _ => a2
  | n + 1, b, a2, pl, w19_h =>
    if v_signs ≤ a2 then a2
    else let r1 := (s_Mo_isSmall (f_text a2.toNatClampNeg));
    if r1 = 0 then a2
    else (lp_Mo_look_86 f_text v_signs n b (a2 + 1) pl w19_h)
def s_Mo_look (f_text : Nat → Int32) (v_signs : Int32) (v_at : Int32) : Int32 × Int32 × Int32 × Int32 :=
  let r1 := (lp_Mo_look_0 f_text v_signs (((v_signs.toInt - v_at.toInt).toNat) + 1) v_at);
  if r1 = v_signs then (r1, r1, 30, 0)
  else let r2 := (s_Mo_isSmall (f_text r1.toNatClampNeg));
  if r2 = 0 then (let r3 := (s_Mo_isDigit (f_text r1.toNatClampNeg));
    if r3 = 0 then (if (f_text r1.toNatClampNeg) = 60 then (let r4 := (s_Mo_compareSign f_text v_signs r1);
        (r4.1, r1, r4.2, 0))
      else if (f_text r1.toNatClampNeg) = 62 then (let r6 := (s_Mo_compareSign f_text v_signs r1);
        (r6.1, r1, r6.2, 0))
      else let r5 := (s_Mo_signKind (f_text r1.toNatClampNeg));
      (r1 + 1, r1, r5, 0))
    else let r7 := (lp_Mo_readNumber_8 f_text v_signs (((v_signs.toInt - r1.toInt).toNat) + 1) 0 r1 (15 : Int32));
    (r7.1, r1, r7.2.1, r7.2.2))
  else let r8 := (lp_Mo_look_86 f_text v_signs (((v_signs.toInt - r1.toInt).toNat) + 1) (f_text r1.toNatClampNeg) r1 r1 (0 : Int32));
  let r9 := (s_Mo_classify f_text 0 r1 r8);
  (r8, r1, r9.1, r9.2)
theorem LU.n {sg a : Int32} (h : LU sg a) (g : ¬ a = sg) : LQ sg a := ⟨h.1, by
  have h2 := h.2.1
  have h3 : a.toInt ≠ sg.toInt := fun e => g (Int32.toInt_inj.mp e)
  omega, h.2.2⟩
theorem lk_pl {sg p a : Int32} (h : p.toInt ≤ a.toInt) (q : LQ sg a) : p.toInt ≤ (a + 1).toInt := by
  have h1 := q.1
  have h2 := q.2
  rw [i32_succ (by omega)]
  omega
theorem lk_2k {sg a : Int32} (h : LU sg a) : a.toInt ≤ 2000 := by
  have := h.2
  omega
theorem lk_lt {f : Nat → Int32} {sg p a : Int32} (q : LQ sg p) (hs : ¬ s_Mo_isSmall (f p.toNatClampNeg) = 0) (hi : LU sg a ∧ p.toInt ≤ a.toInt) (ho : sg ≤ a ∨ s_Mo_isSmall (f a.toNatClampNeg) = 0) : p.toInt < a.toInt := by
  by_cases h : p.toInt < a.toInt
  · exact h
  · have e : p = a := Int32.toInt_inj.mp (by have := hi.2; omega)
    subst e
    rcases ho with g | g
    · rw [Int32.le_iff_toInt_le] at g
      have := q.2.1
      omega
    · exact absurd g hs
set_option maxHeartbeats 4000000 in
set_option maxRecDepth 100000 in
theorem c_Mo_look (l : Launch) (G : GG) (h : Nat) (a_table : Nat) (a_tape : Nat) (a_budget : Nat) (a_spent : Nat) (a_text : Nat) (a_kinds : Nat) (a_values : Nat) (a_scriptKinds : Nat) (a_scriptValues : Nat) (a_isTold : Nat) (a_letOf : Nat) (a_code : Nat) (a_letEnd : Nat) (a_letBegin : Nat) (a_sort : Nat) (a_column : Nat) (a_low : Nat) (a_high : Nat) (a_by : Nat) (a_top : Nat) (a_begins : Nat) (a_ends : Nat) (a_scriptCode : Nat) (a_scriptLetBegin : Nat) (a_scriptLetEnd : Nat) (a_aSort : Nat) (a_aColumn : Nat) (a_aLow : Nat) (a_aHigh : Nat) (a_aBy : Nat) (a_aTop : Nat) (a_aBegin : Nat) (a_anEnd : Nat) (a_told : Nat) (a_out : Nat) (a_goals : Nat) (a_withs : Nat) (a_pile : Nat) (a_letValue : Nat) (a_one : Nat) (a_two : Nat) (v_p : Int32) (v_q : Int32) (v_rows : Int32) (v_cells : Int32) (f_text : Nat → Int32) (v_signs : Int32) (v_tokens : Int32) (v_scriptTokens : Int32) (v_at : Int32) (v_place : Int32) (v_kind : Int32) (v_value : Int32) (v_depth : Int32) (v_asked : Int32) (v_lets : Int32) (v_questions : Int32) (v_statements : Int32) (v_size : Int32) (v_hasScript : Int32) (v_scriptLets : Int32) (v_scriptQuestions : Int32) (v_toldCount : Int32) (v_outs : Int32) (v_goalCount : Int32) (hu : LU v_signs v_at) : Det l G y_Mo_look w_Mo_look (rmD 2) 0 0 [.ref h] [(h, .inr (12, .int v_p :: .int v_q :: .ref a_table :: .int v_rows :: .ref a_tape :: .int v_cells :: .ref a_budget :: .ref a_spent :: .ref a_text :: .int v_signs :: .ref a_kinds :: .ref a_values :: .int v_tokens :: .ref a_scriptKinds :: .ref a_scriptValues :: .int v_scriptTokens :: .int v_at :: .int v_place :: .int v_kind :: .int v_value :: .int v_depth :: .int v_asked :: .int v_lets :: .int v_questions :: .int v_statements :: .ref a_isTold :: .ref a_letOf :: .ref a_code :: .int v_size :: .ref a_letEnd :: .ref a_letBegin :: .ref a_sort :: .ref a_column :: .ref a_low :: .ref a_high :: .ref a_by :: .ref a_top :: .ref a_begins :: .ref a_ends :: .int v_hasScript :: .int v_scriptLets :: .int v_scriptQuestions :: .ref a_scriptCode :: .ref a_scriptLetBegin :: .ref a_scriptLetEnd :: .ref a_aSort :: .ref a_aColumn :: .ref a_aLow :: .ref a_aHigh :: .ref a_aBy :: .ref a_aTop :: .ref a_aBegin :: .ref a_anEnd :: .ref a_told :: .int v_toldCount :: .ref a_out :: .int v_outs :: .ref a_goals :: .ref a_withs :: .int v_goalCount :: .ref a_pile :: .ref a_letValue :: .ref a_one :: .ref a_two :: [])), (a_text, .inl (gI G, 2000, .inl f_text))] none [(h, .inr (12, .int v_p :: .int v_q :: .ref a_table :: .int v_rows :: .ref a_tape :: .int v_cells :: .ref a_budget :: .ref a_spent :: .ref a_text :: .int v_signs :: .ref a_kinds :: .ref a_values :: .int v_tokens :: .ref a_scriptKinds :: .ref a_scriptValues :: .int v_scriptTokens :: .int (s_Mo_look f_text v_signs v_at).1 :: .int (s_Mo_look f_text v_signs v_at).2.1 :: .int (s_Mo_look f_text v_signs v_at).2.2.1 :: .int (s_Mo_look f_text v_signs v_at).2.2.2 :: .int v_depth :: .int v_asked :: .int v_lets :: .int v_questions :: .int v_statements :: .ref a_isTold :: .ref a_letOf :: .ref a_code :: .int v_size :: .ref a_letEnd :: .ref a_letBegin :: .ref a_sort :: .ref a_column :: .ref a_low :: .ref a_high :: .ref a_by :: .ref a_top :: .ref a_begins :: .ref a_ends :: .int v_hasScript :: .int v_scriptLets :: .int v_scriptQuestions :: .ref a_scriptCode :: .ref a_scriptLetBegin :: .ref a_scriptLetEnd :: .ref a_aSort :: .ref a_aColumn :: .ref a_aLow :: .ref a_aHigh :: .ref a_aBy :: .ref a_aTop :: .ref a_aBegin :: .ref a_anEnd :: .ref a_told :: .int v_toldCount :: .ref a_out :: .int v_outs :: .ref a_goals :: .ref a_withs :: .int v_goalCount :: .ref a_pile :: .ref a_letValue :: .ref a_one :: .ref a_two :: [])), (a_text, .inl (gI G, 2000, .inl f_text))] := by
  refine Det.of (cc := b_Mo_look) (maxL := 2) (ret := none) (by decide) rfl (Nat.le_of_ble_eq_true rfl) ?_
  intro p e s m args below meth c A ls hx hb hr hml hown hts hlocks hin hA hK hZ hP hD hS hl
  have hts : ∀ w ∈ wG, w.before args s = true := fun w h => hts w (List.mem_cons_of_mem _ h)
  have hown : s.vm.findClass R_Mo = some m.cls := hown
  have loop_0 : ∀ (Q : State → Prop) (n : Nat) (a : Int32), LU v_signs a → (v_signs.toInt - a.toInt).toNat < n → ∀ (H : Heap) (locs : List Loc) (ls : Array Slot), va_P G.1 classes [(h, .inr (12, .int v_p :: .int v_q :: .ref a_table :: .int v_rows :: .ref a_tape :: .int v_cells :: .ref a_budget :: .ref a_spent :: .ref a_text :: .int v_signs :: .ref a_kinds :: .ref a_values :: .int v_tokens :: .ref a_scriptKinds :: .ref a_scriptValues :: .int v_scriptTokens :: .int a :: .int v_place :: .int v_kind :: .int v_value :: .int v_depth :: .int v_asked :: .int v_lets :: .int v_questions :: .int v_statements :: .ref a_isTold :: .ref a_letOf :: .ref a_code :: .int v_size :: .ref a_letEnd :: .ref a_letBegin :: .ref a_sort :: .ref a_column :: .ref a_low :: .ref a_high :: .ref a_by :: .ref a_top :: .ref a_begins :: .ref a_ends :: .int v_hasScript :: .int v_scriptLets :: .int v_scriptQuestions :: .ref a_scriptCode :: .ref a_scriptLetBegin :: .ref a_scriptLetEnd :: .ref a_aSort :: .ref a_aColumn :: .ref a_aLow :: .ref a_aHigh :: .ref a_aBy :: .ref a_aTop :: .ref a_aBegin :: .ref a_anEnd :: .ref a_told :: .int v_toldCount :: .ref a_out :: .int v_outs :: .ref a_goals :: .ref a_withs :: .int v_goalCount :: .ref a_pile :: .ref a_letValue :: .ref a_one :: .ref a_two :: [])), (a_text, .inl (gI G, 2000, .inl f_text))] H → va_D A [(h, .inr (12, .int v_p :: .int v_q :: .ref a_table :: .int v_rows :: .ref a_tape :: .int v_cells :: .ref a_budget :: .ref a_spent :: .ref a_text :: .int v_signs :: .ref a_kinds :: .ref a_values :: .int v_tokens :: .ref a_scriptKinds :: .ref a_scriptValues :: .int v_scriptTokens :: .int a :: .int v_place :: .int v_kind :: .int v_value :: .int v_depth :: .int v_asked :: .int v_lets :: .int v_questions :: .int v_statements :: .ref a_isTold :: .ref a_letOf :: .ref a_code :: .int v_size :: .ref a_letEnd :: .ref a_letBegin :: .ref a_sort :: .ref a_column :: .ref a_low :: .ref a_high :: .ref a_by :: .ref a_top :: .ref a_begins :: .ref a_ends :: .int v_hasScript :: .int v_scriptLets :: .int v_scriptQuestions :: .ref a_scriptCode :: .ref a_scriptLetBegin :: .ref a_scriptLetEnd :: .ref a_aSort :: .ref a_aColumn :: .ref a_aLow :: .ref a_aHigh :: .ref a_aBy :: .ref a_aTop :: .ref a_aBegin :: .ref a_anEnd :: .ref a_told :: .int v_toldCount :: .ref a_out :: .int v_outs :: .ref a_goals :: .ref a_withs :: .int v_goalCount :: .ref a_pile :: .ref a_letValue :: .ref a_one :: .ref a_two :: [])), (a_text, .inl (gI G, 2000, .inl f_text))] → va_S A s.heap H locs → lv_has ls 2 [(0, .ref h)] → (∀ (H : Heap) (locs : List Loc) (ls : Array Slot), LU v_signs ((lp_Mo_look_0 f_text v_signs n a)) → va_P G.1 classes [(h, .inr (12, .int v_p :: .int v_q :: .ref a_table :: .int v_rows :: .ref a_tape :: .int v_cells :: .ref a_budget :: .ref a_spent :: .ref a_text :: .int v_signs :: .ref a_kinds :: .ref a_values :: .int v_tokens :: .ref a_scriptKinds :: .ref a_scriptValues :: .int v_scriptTokens :: .int ((lp_Mo_look_0 f_text v_signs n a)) :: .int v_place :: .int v_kind :: .int v_value :: .int v_depth :: .int v_asked :: .int v_lets :: .int v_questions :: .int v_statements :: .ref a_isTold :: .ref a_letOf :: .ref a_code :: .int v_size :: .ref a_letEnd :: .ref a_letBegin :: .ref a_sort :: .ref a_column :: .ref a_low :: .ref a_high :: .ref a_by :: .ref a_top :: .ref a_begins :: .ref a_ends :: .int v_hasScript :: .int v_scriptLets :: .int v_scriptQuestions :: .ref a_scriptCode :: .ref a_scriptLetBegin :: .ref a_scriptLetEnd :: .ref a_aSort :: .ref a_aColumn :: .ref a_aLow :: .ref a_aHigh :: .ref a_aBy :: .ref a_aTop :: .ref a_aBegin :: .ref a_anEnd :: .ref a_told :: .int v_toldCount :: .ref a_out :: .int v_outs :: .ref a_goals :: .ref a_withs :: .int v_goalCount :: .ref a_pile :: .ref a_letValue :: .ref a_one :: .ref a_two :: [])), (a_text, .inl (gI G, 2000, .inl f_text))] H → va_D A [(h, .inr (12, .int v_p :: .int v_q :: .ref a_table :: .int v_rows :: .ref a_tape :: .int v_cells :: .ref a_budget :: .ref a_spent :: .ref a_text :: .int v_signs :: .ref a_kinds :: .ref a_values :: .int v_tokens :: .ref a_scriptKinds :: .ref a_scriptValues :: .int v_scriptTokens :: .int ((lp_Mo_look_0 f_text v_signs n a)) :: .int v_place :: .int v_kind :: .int v_value :: .int v_depth :: .int v_asked :: .int v_lets :: .int v_questions :: .int v_statements :: .ref a_isTold :: .ref a_letOf :: .ref a_code :: .int v_size :: .ref a_letEnd :: .ref a_letBegin :: .ref a_sort :: .ref a_column :: .ref a_low :: .ref a_high :: .ref a_by :: .ref a_top :: .ref a_begins :: .ref a_ends :: .int v_hasScript :: .int v_scriptLets :: .int v_scriptQuestions :: .ref a_scriptCode :: .ref a_scriptLetBegin :: .ref a_scriptLetEnd :: .ref a_aSort :: .ref a_aColumn :: .ref a_aLow :: .ref a_aHigh :: .ref a_aBy :: .ref a_aTop :: .ref a_aBegin :: .ref a_anEnd :: .ref a_told :: .int v_toldCount :: .ref a_out :: .int v_outs :: .ref a_goals :: .ref a_withs :: .int v_goalCount :: .ref a_pile :: .ref a_letValue :: .ref a_one :: .ref a_two :: [])), (a_text, .inl (gI G, 2000, .inl f_text))] → va_S A s.heap H locs → lv_has ls 2 [(0, .ref h)] → W p l e (rmD 2) s m args below meth c H locs 0 0 Q (F0 m 38 ls [])) → W p l e (rmD 2) s m args below meth c H locs 0 0 Q (F0 m 0 ls []) := by
    intro Q
    intro n
    induction n with
    | zero => intro a hi hmu; exact absurd hmu (Nat.not_lt_zero _)
    | succ n ih =>
      intro a hi hmu H locs ls hP hD hS hl kk
      refine lv_aload_n hx hb d_Mo_look_0 rfl (lv_at hl 0 rfl) ?_
      refine va_get (D := G.1) (ci := 12) (C := R_Mo) (T := F_Mo) (N := 64) (v := .int a) hx hb hts i_Mo hown hK hP 0 rfl rfl 16 (by decide) (hts (.fieldLink R_Mo 181 "PrivateQueriesModel" "at" "I") k_205) (fun _ h9 => h9) rfl d_Mo_look_1 ?_
      refine lv_aload_n hx hb d_Mo_look_4 rfl (lv_at hl 0 rfl) ?_
      refine va_get (D := G.1) (ci := 12) (C := R_Mo) (T := F_Mo) (N := 64) (v := .int v_signs) hx hb hts i_Mo hown hK hP 0 rfl rfl 9 (by decide) (hts (.fieldLink R_Mo 155 "PrivateQueriesModel" "signs" "I") k_177) (fun _ h9 => h9) rfl d_Mo_look_5 ?_
      refine lv_icmp_ge (tgt := 38) hx hb d_Mo_look_8 (by decide) (fun c1 => ?_) (fun c1 => ?_)
      · skip
        have e_ : (lp_Mo_look_0 f_text v_signs (n + 1) a) = a := (by rw [lp_Mo_look_0, if_pos c1])
        rw [e_] at kk
        exact kk _ _ _ hi hP hD hS (lv_sub hl [0] rfl)
      refine lv_aload_n hx hb d_Mo_look_11 rfl (lv_at hl 0 rfl) ?_
      refine va_get (D := G.1) (ci := 12) (C := R_Mo) (T := F_Mo) (N := 64) (v := .ref a_text) hx hb hts i_Mo hown hK hP 0 rfl rfl 8 (by decide) (hts (.fieldLink R_Mo 22 "PrivateQueriesModel" "text" "[I") k_196) (fun _ h9 => h9) rfl d_Mo_look_12 ?_
      refine lv_aload_n hx hb d_Mo_look_15 rfl (lv_at hl 0 rfl) ?_
      refine va_get (D := G.1) (ci := 12) (C := R_Mo) (T := F_Mo) (N := 64) (v := .int a) hx hb hts i_Mo hown hK hP 0 rfl rfl 16 (by decide) (hts (.fieldLink R_Mo 181 "PrivateQueriesModel" "at" "I") k_205) (fun _ h9 => h9) rfl d_Mo_look_16 ?_
      refine va_iald hx hb hK hP 1 0 rfl rfl (hi.q c1).in d_Mo_look_19 ?_
      refine lv_bipush (v := 32) hx hb d_Mo_look_20 (by decide) ?_
      refine lv_icmp_ne (tgt := 38) hx hb d_Mo_look_22 (by decide) (fun c2 => ?_) (fun c2 => ?_)
      · skip
        have e_ : (lp_Mo_look_0 f_text v_signs (n + 1) a) = a := (by rw [lp_Mo_look_0, if_neg c1, if_neg c2])
        rw [e_] at kk
        exact kk _ _ _ hi hP hD hS (lv_sub hl [0] rfl)
      refine lv_aload_n hx hb d_Mo_look_25 rfl (lv_at hl 0 rfl) ?_
      refine lv_dup hx hb d_Mo_look_26 rfl ?_
      refine va_get (D := G.1) (ci := 12) (C := R_Mo) (T := F_Mo) (N := 64) (v := .int a) hx hb hts i_Mo hown hK hP 0 rfl rfl 16 (by decide) (hts (.fieldLink R_Mo 181 "PrivateQueriesModel" "at" "I") k_205) (fun _ h9 => h9) rfl d_Mo_look_27 ?_
      refine lv_iconst (v := 1) hx hb d_Mo_look_30 (by decide) ?_
      refine lv_iadd hx hb d_Mo_look_31 ?_
      refine va_put (D := G.1) (ci := 12) (v := .int (a + 1)) (ty := .int) (C := R_Mo) (T := F_Mo) (N := 64) hx hb hts i_Mo t_Mo t_Mo_ok n_Mo hown hK hP hD hS 0 rfl rfl 16 (by decide) (hts (.fieldLink R_Mo 181 "PrivateQueriesModel" "at" "I") k_205) (fun _ h9 => h9) rfl (by decide +kernel) rfl rfl (Nat.le_of_ble_eq_true rfl) d_Mo_look_32 (fun H locs hP hD hS => ?_)
      have hP : va_P G.1 classes [(h, .inr (12, .int v_p :: .int v_q :: .ref a_table :: .int v_rows :: .ref a_tape :: .int v_cells :: .ref a_budget :: .ref a_spent :: .ref a_text :: .int v_signs :: .ref a_kinds :: .ref a_values :: .int v_tokens :: .ref a_scriptKinds :: .ref a_scriptValues :: .int v_scriptTokens :: .int (a + 1) :: .int v_place :: .int v_kind :: .int v_value :: .int v_depth :: .int v_asked :: .int v_lets :: .int v_questions :: .int v_statements :: .ref a_isTold :: .ref a_letOf :: .ref a_code :: .int v_size :: .ref a_letEnd :: .ref a_letBegin :: .ref a_sort :: .ref a_column :: .ref a_low :: .ref a_high :: .ref a_by :: .ref a_top :: .ref a_begins :: .ref a_ends :: .int v_hasScript :: .int v_scriptLets :: .int v_scriptQuestions :: .ref a_scriptCode :: .ref a_scriptLetBegin :: .ref a_scriptLetEnd :: .ref a_aSort :: .ref a_aColumn :: .ref a_aLow :: .ref a_aHigh :: .ref a_aBy :: .ref a_aTop :: .ref a_aBegin :: .ref a_anEnd :: .ref a_told :: .int v_toldCount :: .ref a_out :: .int v_outs :: .ref a_goals :: .ref a_withs :: .int v_goalCount :: .ref a_pile :: .ref a_letValue :: .ref a_one :: .ref a_two :: [])), (a_text, .inl (gI G, 2000, .inl f_text))] H := hP
      have hD : va_D A [(h, .inr (12, .int v_p :: .int v_q :: .ref a_table :: .int v_rows :: .ref a_tape :: .int v_cells :: .ref a_budget :: .ref a_spent :: .ref a_text :: .int v_signs :: .ref a_kinds :: .ref a_values :: .int v_tokens :: .ref a_scriptKinds :: .ref a_scriptValues :: .int v_scriptTokens :: .int (a + 1) :: .int v_place :: .int v_kind :: .int v_value :: .int v_depth :: .int v_asked :: .int v_lets :: .int v_questions :: .int v_statements :: .ref a_isTold :: .ref a_letOf :: .ref a_code :: .int v_size :: .ref a_letEnd :: .ref a_letBegin :: .ref a_sort :: .ref a_column :: .ref a_low :: .ref a_high :: .ref a_by :: .ref a_top :: .ref a_begins :: .ref a_ends :: .int v_hasScript :: .int v_scriptLets :: .int v_scriptQuestions :: .ref a_scriptCode :: .ref a_scriptLetBegin :: .ref a_scriptLetEnd :: .ref a_aSort :: .ref a_aColumn :: .ref a_aLow :: .ref a_aHigh :: .ref a_aBy :: .ref a_aTop :: .ref a_aBegin :: .ref a_anEnd :: .ref a_told :: .int v_toldCount :: .ref a_out :: .int v_outs :: .ref a_goals :: .ref a_withs :: .int v_goalCount :: .ref a_pile :: .ref a_letValue :: .ref a_one :: .ref a_two :: [])), (a_text, .inl (gI G, 2000, .inl f_text))] := hD
      refine lv_goto (tgt := 0) hx hb d_Mo_look_35 (by decide) ?_
      have e_ : (lp_Mo_look_0 f_text v_signs (n + 1) a) = (lp_Mo_look_0 f_text v_signs n (a + 1)) := (by rw [lp_Mo_look_0, if_neg c1, if_pos c2])
      rw [e_] at kk
      exact ih (a + 1) (hi.q c1).s (mu_step (hi.q c1).mu hmu) _ _ _ hP hD hS (lv_sub hl [0] rfl) kk
  have loop_86 : ∀ (Q : State → Prop) (n : Nat) (b : Int32) (a2 : Int32) (pl : Int32) (w19_h : Int32), LU v_signs a2 ∧ pl.toInt ≤ a2.toInt → (v_signs.toInt - a2.toInt).toNat < n → ∀ (H : Heap) (locs : List Loc) (ls : Array Slot), va_P G.1 classes [(h, .inr (12, .int v_p :: .int v_q :: .ref a_table :: .int v_rows :: .ref a_tape :: .int v_cells :: .ref a_budget :: .ref a_spent :: .ref a_text :: .int v_signs :: .ref a_kinds :: .ref a_values :: .int v_tokens :: .ref a_scriptKinds :: .ref a_scriptValues :: .int v_scriptTokens :: .int a2 :: .int pl :: .int v_kind :: .int w19_h :: .int v_depth :: .int v_asked :: .int v_lets :: .int v_questions :: .int v_statements :: .ref a_isTold :: .ref a_letOf :: .ref a_code :: .int v_size :: .ref a_letEnd :: .ref a_letBegin :: .ref a_sort :: .ref a_column :: .ref a_low :: .ref a_high :: .ref a_by :: .ref a_top :: .ref a_begins :: .ref a_ends :: .int v_hasScript :: .int v_scriptLets :: .int v_scriptQuestions :: .ref a_scriptCode :: .ref a_scriptLetBegin :: .ref a_scriptLetEnd :: .ref a_aSort :: .ref a_aColumn :: .ref a_aLow :: .ref a_aHigh :: .ref a_aBy :: .ref a_aTop :: .ref a_aBegin :: .ref a_anEnd :: .ref a_told :: .int v_toldCount :: .ref a_out :: .int v_outs :: .ref a_goals :: .ref a_withs :: .int v_goalCount :: .ref a_pile :: .ref a_letValue :: .ref a_one :: .ref a_two :: [])), (a_text, .inl (gI G, 2000, .inl f_text))] H → va_D A [(h, .inr (12, .int v_p :: .int v_q :: .ref a_table :: .int v_rows :: .ref a_tape :: .int v_cells :: .ref a_budget :: .ref a_spent :: .ref a_text :: .int v_signs :: .ref a_kinds :: .ref a_values :: .int v_tokens :: .ref a_scriptKinds :: .ref a_scriptValues :: .int v_scriptTokens :: .int a2 :: .int pl :: .int v_kind :: .int w19_h :: .int v_depth :: .int v_asked :: .int v_lets :: .int v_questions :: .int v_statements :: .ref a_isTold :: .ref a_letOf :: .ref a_code :: .int v_size :: .ref a_letEnd :: .ref a_letBegin :: .ref a_sort :: .ref a_column :: .ref a_low :: .ref a_high :: .ref a_by :: .ref a_top :: .ref a_begins :: .ref a_ends :: .int v_hasScript :: .int v_scriptLets :: .int v_scriptQuestions :: .ref a_scriptCode :: .ref a_scriptLetBegin :: .ref a_scriptLetEnd :: .ref a_aSort :: .ref a_aColumn :: .ref a_aLow :: .ref a_aHigh :: .ref a_aBy :: .ref a_aTop :: .ref a_aBegin :: .ref a_anEnd :: .ref a_told :: .int v_toldCount :: .ref a_out :: .int v_outs :: .ref a_goals :: .ref a_withs :: .int v_goalCount :: .ref a_pile :: .ref a_letValue :: .ref a_one :: .ref a_two :: [])), (a_text, .inl (gI G, 2000, .inl f_text))] → va_S A s.heap H locs → lv_has ls 2 [(1, .int b), (0, .ref h)] → (∀ (H : Heap) (locs : List Loc) (ls : Array Slot), LU v_signs ((lp_Mo_look_86 f_text v_signs n b a2 pl w19_h)) ∧ pl.toInt ≤ ((lp_Mo_look_86 f_text v_signs n b a2 pl w19_h)).toInt → v_signs ≤ ((lp_Mo_look_86 f_text v_signs n b a2 pl w19_h)) ∨ s_Mo_isSmall (f_text ((lp_Mo_look_86 f_text v_signs n b a2 pl w19_h)).toNatClampNeg) = 0 → va_P G.1 classes [(h, .inr (12, .int v_p :: .int v_q :: .ref a_table :: .int v_rows :: .ref a_tape :: .int v_cells :: .ref a_budget :: .ref a_spent :: .ref a_text :: .int v_signs :: .ref a_kinds :: .ref a_values :: .int v_tokens :: .ref a_scriptKinds :: .ref a_scriptValues :: .int v_scriptTokens :: .int ((lp_Mo_look_86 f_text v_signs n b a2 pl w19_h)) :: .int pl :: .int v_kind :: .int w19_h :: .int v_depth :: .int v_asked :: .int v_lets :: .int v_questions :: .int v_statements :: .ref a_isTold :: .ref a_letOf :: .ref a_code :: .int v_size :: .ref a_letEnd :: .ref a_letBegin :: .ref a_sort :: .ref a_column :: .ref a_low :: .ref a_high :: .ref a_by :: .ref a_top :: .ref a_begins :: .ref a_ends :: .int v_hasScript :: .int v_scriptLets :: .int v_scriptQuestions :: .ref a_scriptCode :: .ref a_scriptLetBegin :: .ref a_scriptLetEnd :: .ref a_aSort :: .ref a_aColumn :: .ref a_aLow :: .ref a_aHigh :: .ref a_aBy :: .ref a_aTop :: .ref a_aBegin :: .ref a_anEnd :: .ref a_told :: .int v_toldCount :: .ref a_out :: .int v_outs :: .ref a_goals :: .ref a_withs :: .int v_goalCount :: .ref a_pile :: .ref a_letValue :: .ref a_one :: .ref a_two :: [])), (a_text, .inl (gI G, 2000, .inl f_text))] H → va_D A [(h, .inr (12, .int v_p :: .int v_q :: .ref a_table :: .int v_rows :: .ref a_tape :: .int v_cells :: .ref a_budget :: .ref a_spent :: .ref a_text :: .int v_signs :: .ref a_kinds :: .ref a_values :: .int v_tokens :: .ref a_scriptKinds :: .ref a_scriptValues :: .int v_scriptTokens :: .int ((lp_Mo_look_86 f_text v_signs n b a2 pl w19_h)) :: .int pl :: .int v_kind :: .int w19_h :: .int v_depth :: .int v_asked :: .int v_lets :: .int v_questions :: .int v_statements :: .ref a_isTold :: .ref a_letOf :: .ref a_code :: .int v_size :: .ref a_letEnd :: .ref a_letBegin :: .ref a_sort :: .ref a_column :: .ref a_low :: .ref a_high :: .ref a_by :: .ref a_top :: .ref a_begins :: .ref a_ends :: .int v_hasScript :: .int v_scriptLets :: .int v_scriptQuestions :: .ref a_scriptCode :: .ref a_scriptLetBegin :: .ref a_scriptLetEnd :: .ref a_aSort :: .ref a_aColumn :: .ref a_aLow :: .ref a_aHigh :: .ref a_aBy :: .ref a_aTop :: .ref a_aBegin :: .ref a_anEnd :: .ref a_told :: .int v_toldCount :: .ref a_out :: .int v_outs :: .ref a_goals :: .ref a_withs :: .int v_goalCount :: .ref a_pile :: .ref a_letValue :: .ref a_one :: .ref a_two :: [])), (a_text, .inl (gI G, 2000, .inl f_text))] → va_S A s.heap H locs → lv_has ls 2 [(1, .int b), (0, .ref h)] → W p l e (rmD 2) s m args below meth c H locs 0 0 Q (F0 m 125 ls [])) → W p l e (rmD 2) s m args below meth c H locs 0 0 Q (F0 m 86 ls []) := by
    intro Q
    intro n
    induction n with
    | zero => intro b a2 pl w19_h hi hmu; exact absurd hmu (Nat.not_lt_zero _)
    | succ n ih =>
      intro b a2 pl w19_h hi hmu H locs ls hP hD hS hl kk
      refine lv_aload_n hx hb d_Mo_look_86 rfl (lv_at hl 1 rfl) ?_
      refine va_get (D := G.1) (ci := 12) (C := R_Mo) (T := F_Mo) (N := 64) (v := .int a2) hx hb hts i_Mo hown hK hP 0 rfl rfl 16 (by decide) (hts (.fieldLink R_Mo 181 "PrivateQueriesModel" "at" "I") k_205) (fun _ h9 => h9) rfl d_Mo_look_87 ?_
      refine lv_aload_n hx hb d_Mo_look_90 rfl (lv_at hl 1 rfl) ?_
      refine va_get (D := G.1) (ci := 12) (C := R_Mo) (T := F_Mo) (N := 64) (v := .int v_signs) hx hb hts i_Mo hown hK hP 0 rfl rfl 9 (by decide) (hts (.fieldLink R_Mo 155 "PrivateQueriesModel" "signs" "I") k_177) (fun _ h9 => h9) rfl d_Mo_look_91 ?_
      refine lv_icmp_ge (tgt := 125) hx hb d_Mo_look_94 (by decide) (fun c1 => ?_) (fun c1 => ?_)
      · skip
        have e_ : (lp_Mo_look_86 f_text v_signs (n + 1) b a2 pl w19_h) = a2 := (by rw [lp_Mo_look_86, if_pos c1])
        rw [e_] at kk
        exact kk _ _ _ hi (Or.inl c1) hP hD hS (lv_sub hl [0, 1] rfl)
      refine lv_aload_n hx hb d_Mo_look_97 rfl (lv_at hl 1 rfl) ?_
      refine va_get (D := G.1) (ci := 12) (C := R_Mo) (T := F_Mo) (N := 64) (v := .ref a_text) hx hb hts i_Mo hown hK hP 0 rfl rfl 8 (by decide) (hts (.fieldLink R_Mo 22 "PrivateQueriesModel" "text" "[I") k_196) (fun _ h9 => h9) rfl d_Mo_look_98 ?_
      refine lv_aload_n hx hb d_Mo_look_101 rfl (lv_at hl 1 rfl) ?_
      refine va_get (D := G.1) (ci := 12) (C := R_Mo) (T := F_Mo) (N := 64) (v := .int a2) hx hb hts i_Mo hown hK hP 0 rfl rfl 16 (by decide) (hts (.fieldLink R_Mo 181 "PrivateQueriesModel" "at" "I") k_205) (fun _ h9 => h9) rfl d_Mo_look_102 ?_
      refine va_iald hx hb hK hP 1 0 rfl rfl (hi.1.q c1).in d_Mo_look_105 ?_
      obtain ⟨r1, hr1⟩ : ∃ r, (s_Mo_isSmall (f_text a2.toNatClampNeg)) = r := ⟨_, rfl⟩
      have hC_r1 := (c_Mo_isSmall l G (f_text a2.toNatClampNeg))
      rw [hr1] at hC_r1
      have hf_r1_1 : isB r1 := by rw [← hr1]; exact z_Mo_isSmall
      refine ly_callS (rest := []) (wf := [(h, .inr (12, .int v_p :: .int v_q :: .ref a_table :: .int v_rows :: .ref a_tape :: .int v_cells :: .ref a_budget :: .ref a_spent :: .ref a_text :: .int v_signs :: .ref a_kinds :: .ref a_values :: .int v_tokens :: .ref a_scriptKinds :: .ref a_scriptValues :: .int v_scriptTokens :: .int a2 :: .int pl :: .int v_kind :: .int w19_h :: .int v_depth :: .int v_asked :: .int v_lets :: .int v_questions :: .int v_statements :: .ref a_isTold :: .ref a_letOf :: .ref a_code :: .int v_size :: .ref a_letEnd :: .ref a_letBegin :: .ref a_sort :: .ref a_column :: .ref a_low :: .ref a_high :: .ref a_by :: .ref a_top :: .ref a_begins :: .ref a_ends :: .int v_hasScript :: .int v_scriptLets :: .int v_scriptQuestions :: .ref a_scriptCode :: .ref a_scriptLetBegin :: .ref a_scriptLetEnd :: .ref a_aSort :: .ref a_aColumn :: .ref a_aLow :: .ref a_aHigh :: .ref a_aBy :: .ref a_aTop :: .ref a_aBegin :: .ref a_anEnd :: .ref a_told :: .int v_toldCount :: .ref a_out :: .int v_outs :: .ref a_goals :: .ref a_withs :: .int v_goalCount :: .ref a_pile :: .ref a_letValue :: .ref a_one :: .ref a_two :: [])), (a_text, .inl (gI G, 2000, .inl f_text))]) ⟨hx, hb, hml, hown, hts⟩ hA hK hZ hP hD hS hC_r1 (cwS 1 hts g_Mo_205 rfl rfl rfl (by decide +kernel) ⟨Nat.le_of_ble_eq_true rfl, Nat.le_of_ble_eq_true rfl⟩) [] rfl (by decide) rfl rfl rfl hl.1 rfl (Nat.le_of_ble_eq_true rfl) d_Mo_look_106 ⟨Nat.le_of_ble_eq_true rfl, Nat.le_of_ble_eq_true rfl⟩ (st1 := [.int r1]) (c1 := 0) (s1 := 0) rfl rfl rfl (fun H locs hP hD hS => ?_)
      refine lv_if_eq (tgt := 125) hx hb d_Mo_look_109 (by decide) (fun c2 => ?_) (fun c2 => ?_)
      · skip
        have e_ : (lp_Mo_look_86 f_text v_signs (n + 1) b a2 pl w19_h) = a2 := (by rw [lp_Mo_look_86] <;> simp only [hr1] <;> rw [if_neg c1, if_pos c2])
        rw [e_] at kk
        exact kk _ _ _ hi (Or.inr (by rw [hr1]; exact c2)) hP hD hS (lv_sub hl [0, 1] rfl)
      refine lv_aload_n hx hb d_Mo_look_112 rfl (lv_at hl 1 rfl) ?_
      refine lv_dup hx hb d_Mo_look_113 rfl ?_
      refine va_get (D := G.1) (ci := 12) (C := R_Mo) (T := F_Mo) (N := 64) (v := .int a2) hx hb hts i_Mo hown hK hP 0 rfl rfl 16 (by decide) (hts (.fieldLink R_Mo 181 "PrivateQueriesModel" "at" "I") k_205) (fun _ h9 => h9) rfl d_Mo_look_114 ?_
      refine lv_iconst (v := 1) hx hb d_Mo_look_117 (by decide) ?_
      refine lv_iadd hx hb d_Mo_look_118 ?_
      refine va_put (D := G.1) (ci := 12) (v := .int (a2 + 1)) (ty := .int) (C := R_Mo) (T := F_Mo) (N := 64) hx hb hts i_Mo t_Mo t_Mo_ok n_Mo hown hK hP hD hS 0 rfl rfl 16 (by decide) (hts (.fieldLink R_Mo 181 "PrivateQueriesModel" "at" "I") k_205) (fun _ h9 => h9) rfl (by decide +kernel) rfl rfl (Nat.le_of_ble_eq_true rfl) d_Mo_look_119 (fun H locs hP hD hS => ?_)
      have hP : va_P G.1 classes [(h, .inr (12, .int v_p :: .int v_q :: .ref a_table :: .int v_rows :: .ref a_tape :: .int v_cells :: .ref a_budget :: .ref a_spent :: .ref a_text :: .int v_signs :: .ref a_kinds :: .ref a_values :: .int v_tokens :: .ref a_scriptKinds :: .ref a_scriptValues :: .int v_scriptTokens :: .int (a2 + 1) :: .int pl :: .int v_kind :: .int w19_h :: .int v_depth :: .int v_asked :: .int v_lets :: .int v_questions :: .int v_statements :: .ref a_isTold :: .ref a_letOf :: .ref a_code :: .int v_size :: .ref a_letEnd :: .ref a_letBegin :: .ref a_sort :: .ref a_column :: .ref a_low :: .ref a_high :: .ref a_by :: .ref a_top :: .ref a_begins :: .ref a_ends :: .int v_hasScript :: .int v_scriptLets :: .int v_scriptQuestions :: .ref a_scriptCode :: .ref a_scriptLetBegin :: .ref a_scriptLetEnd :: .ref a_aSort :: .ref a_aColumn :: .ref a_aLow :: .ref a_aHigh :: .ref a_aBy :: .ref a_aTop :: .ref a_aBegin :: .ref a_anEnd :: .ref a_told :: .int v_toldCount :: .ref a_out :: .int v_outs :: .ref a_goals :: .ref a_withs :: .int v_goalCount :: .ref a_pile :: .ref a_letValue :: .ref a_one :: .ref a_two :: [])), (a_text, .inl (gI G, 2000, .inl f_text))] H := hP
      have hD : va_D A [(h, .inr (12, .int v_p :: .int v_q :: .ref a_table :: .int v_rows :: .ref a_tape :: .int v_cells :: .ref a_budget :: .ref a_spent :: .ref a_text :: .int v_signs :: .ref a_kinds :: .ref a_values :: .int v_tokens :: .ref a_scriptKinds :: .ref a_scriptValues :: .int v_scriptTokens :: .int (a2 + 1) :: .int pl :: .int v_kind :: .int w19_h :: .int v_depth :: .int v_asked :: .int v_lets :: .int v_questions :: .int v_statements :: .ref a_isTold :: .ref a_letOf :: .ref a_code :: .int v_size :: .ref a_letEnd :: .ref a_letBegin :: .ref a_sort :: .ref a_column :: .ref a_low :: .ref a_high :: .ref a_by :: .ref a_top :: .ref a_begins :: .ref a_ends :: .int v_hasScript :: .int v_scriptLets :: .int v_scriptQuestions :: .ref a_scriptCode :: .ref a_scriptLetBegin :: .ref a_scriptLetEnd :: .ref a_aSort :: .ref a_aColumn :: .ref a_aLow :: .ref a_aHigh :: .ref a_aBy :: .ref a_aTop :: .ref a_aBegin :: .ref a_anEnd :: .ref a_told :: .int v_toldCount :: .ref a_out :: .int v_outs :: .ref a_goals :: .ref a_withs :: .int v_goalCount :: .ref a_pile :: .ref a_letValue :: .ref a_one :: .ref a_two :: [])), (a_text, .inl (gI G, 2000, .inl f_text))] := hD
      refine lv_goto (tgt := 86) hx hb d_Mo_look_122 (by decide) ?_
      have e_ : (lp_Mo_look_86 f_text v_signs (n + 1) b a2 pl w19_h) = (lp_Mo_look_86 f_text v_signs n b (a2 + 1) pl w19_h) := (by rw [lp_Mo_look_86] <;> simp only [hr1] <;> rw [if_neg c1, if_neg c2])
      rw [e_] at kk
      exact ih b (a2 + 1) pl w19_h ⟨(hi.1.q c1).s, lk_pl hi.2 (hi.1.q c1)⟩ (mu_step (hi.1.q c1).mu hmu) _ _ _ hP hD hS (lv_sub hl [0, 1] rfl) kk
  have hl : lv_has ls 2 [(0, .ref h)] := hl
  obtain ⟨r1, hr1⟩ : ∃ r, (lp_Mo_look_0 f_text v_signs (((v_signs.toInt - v_at.toInt).toNat) + 1) v_at) = r := ⟨_, rfl⟩
  refine loop_0 _ (((v_signs.toInt - v_at.toInt).toNat) + 1) v_at hu (Nat.lt_succ_self _) _ _ _ hP hD hS (lv_sub hl [0] rfl) (fun H locs ls hx_r1_hi hP hD hS hl => ?_)
  try rw [hr1] at hx_r1_hi
  try rw [hr1] at hP
  try rw [hr1] at hD
  try rw [hr1] at hl
  have hP : va_P G.1 classes [(h, .inr (12, .int v_p :: .int v_q :: .ref a_table :: .int v_rows :: .ref a_tape :: .int v_cells :: .ref a_budget :: .ref a_spent :: .ref a_text :: .int v_signs :: .ref a_kinds :: .ref a_values :: .int v_tokens :: .ref a_scriptKinds :: .ref a_scriptValues :: .int v_scriptTokens :: .int r1 :: .int v_place :: .int v_kind :: .int v_value :: .int v_depth :: .int v_asked :: .int v_lets :: .int v_questions :: .int v_statements :: .ref a_isTold :: .ref a_letOf :: .ref a_code :: .int v_size :: .ref a_letEnd :: .ref a_letBegin :: .ref a_sort :: .ref a_column :: .ref a_low :: .ref a_high :: .ref a_by :: .ref a_top :: .ref a_begins :: .ref a_ends :: .int v_hasScript :: .int v_scriptLets :: .int v_scriptQuestions :: .ref a_scriptCode :: .ref a_scriptLetBegin :: .ref a_scriptLetEnd :: .ref a_aSort :: .ref a_aColumn :: .ref a_aLow :: .ref a_aHigh :: .ref a_aBy :: .ref a_aTop :: .ref a_aBegin :: .ref a_anEnd :: .ref a_told :: .int v_toldCount :: .ref a_out :: .int v_outs :: .ref a_goals :: .ref a_withs :: .int v_goalCount :: .ref a_pile :: .ref a_letValue :: .ref a_one :: .ref a_two :: [])), (a_text, .inl (gI G, 2000, .inl f_text))] H := hP
  have hD : va_D A [(h, .inr (12, .int v_p :: .int v_q :: .ref a_table :: .int v_rows :: .ref a_tape :: .int v_cells :: .ref a_budget :: .ref a_spent :: .ref a_text :: .int v_signs :: .ref a_kinds :: .ref a_values :: .int v_tokens :: .ref a_scriptKinds :: .ref a_scriptValues :: .int v_scriptTokens :: .int r1 :: .int v_place :: .int v_kind :: .int v_value :: .int v_depth :: .int v_asked :: .int v_lets :: .int v_questions :: .int v_statements :: .ref a_isTold :: .ref a_letOf :: .ref a_code :: .int v_size :: .ref a_letEnd :: .ref a_letBegin :: .ref a_sort :: .ref a_column :: .ref a_low :: .ref a_high :: .ref a_by :: .ref a_top :: .ref a_begins :: .ref a_ends :: .int v_hasScript :: .int v_scriptLets :: .int v_scriptQuestions :: .ref a_scriptCode :: .ref a_scriptLetBegin :: .ref a_scriptLetEnd :: .ref a_aSort :: .ref a_aColumn :: .ref a_aLow :: .ref a_aHigh :: .ref a_aBy :: .ref a_aTop :: .ref a_aBegin :: .ref a_anEnd :: .ref a_told :: .int v_toldCount :: .ref a_out :: .int v_outs :: .ref a_goals :: .ref a_withs :: .int v_goalCount :: .ref a_pile :: .ref a_letValue :: .ref a_one :: .ref a_two :: [])), (a_text, .inl (gI G, 2000, .inl f_text))] := hD
  have hl : lv_has ls 2 [(0, .ref h)] := hl
  refine lv_aload_n hx hb d_Mo_look_38 rfl (lv_at hl 0 rfl) ?_
  refine lv_aload_n hx hb d_Mo_look_39 rfl (lv_at hl 0 rfl) ?_
  refine va_get (D := G.1) (ci := 12) (C := R_Mo) (T := F_Mo) (N := 64) (v := .int r1) hx hb hts i_Mo hown hK hP 0 rfl rfl 16 (by decide) (hts (.fieldLink R_Mo 181 "PrivateQueriesModel" "at" "I") k_205) (fun _ h9 => h9) rfl d_Mo_look_40 ?_
  refine va_put (D := G.1) (ci := 12) (v := .int r1) (ty := .int) (C := R_Mo) (T := F_Mo) (N := 64) hx hb hts i_Mo t_Mo t_Mo_ok n_Mo hown hK hP hD hS 0 rfl rfl 17 (by decide) (hts (.fieldLink R_Mo 202 "PrivateQueriesModel" "place" "I") k_217) (fun _ h9 => h9) rfl (by decide +kernel) rfl rfl (Nat.le_of_ble_eq_true rfl) d_Mo_look_43 (fun H locs hP hD hS => ?_)
  have hP : va_P G.1 classes [(h, .inr (12, .int v_p :: .int v_q :: .ref a_table :: .int v_rows :: .ref a_tape :: .int v_cells :: .ref a_budget :: .ref a_spent :: .ref a_text :: .int v_signs :: .ref a_kinds :: .ref a_values :: .int v_tokens :: .ref a_scriptKinds :: .ref a_scriptValues :: .int v_scriptTokens :: .int r1 :: .int r1 :: .int v_kind :: .int v_value :: .int v_depth :: .int v_asked :: .int v_lets :: .int v_questions :: .int v_statements :: .ref a_isTold :: .ref a_letOf :: .ref a_code :: .int v_size :: .ref a_letEnd :: .ref a_letBegin :: .ref a_sort :: .ref a_column :: .ref a_low :: .ref a_high :: .ref a_by :: .ref a_top :: .ref a_begins :: .ref a_ends :: .int v_hasScript :: .int v_scriptLets :: .int v_scriptQuestions :: .ref a_scriptCode :: .ref a_scriptLetBegin :: .ref a_scriptLetEnd :: .ref a_aSort :: .ref a_aColumn :: .ref a_aLow :: .ref a_aHigh :: .ref a_aBy :: .ref a_aTop :: .ref a_aBegin :: .ref a_anEnd :: .ref a_told :: .int v_toldCount :: .ref a_out :: .int v_outs :: .ref a_goals :: .ref a_withs :: .int v_goalCount :: .ref a_pile :: .ref a_letValue :: .ref a_one :: .ref a_two :: [])), (a_text, .inl (gI G, 2000, .inl f_text))] H := hP
  have hD : va_D A [(h, .inr (12, .int v_p :: .int v_q :: .ref a_table :: .int v_rows :: .ref a_tape :: .int v_cells :: .ref a_budget :: .ref a_spent :: .ref a_text :: .int v_signs :: .ref a_kinds :: .ref a_values :: .int v_tokens :: .ref a_scriptKinds :: .ref a_scriptValues :: .int v_scriptTokens :: .int r1 :: .int r1 :: .int v_kind :: .int v_value :: .int v_depth :: .int v_asked :: .int v_lets :: .int v_questions :: .int v_statements :: .ref a_isTold :: .ref a_letOf :: .ref a_code :: .int v_size :: .ref a_letEnd :: .ref a_letBegin :: .ref a_sort :: .ref a_column :: .ref a_low :: .ref a_high :: .ref a_by :: .ref a_top :: .ref a_begins :: .ref a_ends :: .int v_hasScript :: .int v_scriptLets :: .int v_scriptQuestions :: .ref a_scriptCode :: .ref a_scriptLetBegin :: .ref a_scriptLetEnd :: .ref a_aSort :: .ref a_aColumn :: .ref a_aLow :: .ref a_aHigh :: .ref a_aBy :: .ref a_aTop :: .ref a_aBegin :: .ref a_anEnd :: .ref a_told :: .int v_toldCount :: .ref a_out :: .int v_outs :: .ref a_goals :: .ref a_withs :: .int v_goalCount :: .ref a_pile :: .ref a_letValue :: .ref a_one :: .ref a_two :: [])), (a_text, .inl (gI G, 2000, .inl f_text))] := hD
  refine lv_aload_n hx hb d_Mo_look_46 rfl (lv_at hl 0 rfl) ?_
  refine lv_iconst (v := 0) hx hb d_Mo_look_47 (by decide) ?_
  refine va_put (D := G.1) (ci := 12) (v := .int 0) (ty := .int) (C := R_Mo) (T := F_Mo) (N := 64) hx hb hts i_Mo t_Mo t_Mo_ok n_Mo hown hK hP hD hS 0 rfl rfl 19 (by decide) (hts (.fieldLink R_Mo 170 "PrivateQueriesModel" "value" "I") k_204) (fun _ h9 => h9) rfl (by decide +kernel) rfl rfl (Nat.le_of_ble_eq_true rfl) d_Mo_look_48 (fun H locs hP hD hS => ?_)
  have hP : va_P G.1 classes [(h, .inr (12, .int v_p :: .int v_q :: .ref a_table :: .int v_rows :: .ref a_tape :: .int v_cells :: .ref a_budget :: .ref a_spent :: .ref a_text :: .int v_signs :: .ref a_kinds :: .ref a_values :: .int v_tokens :: .ref a_scriptKinds :: .ref a_scriptValues :: .int v_scriptTokens :: .int r1 :: .int r1 :: .int v_kind :: .int 0 :: .int v_depth :: .int v_asked :: .int v_lets :: .int v_questions :: .int v_statements :: .ref a_isTold :: .ref a_letOf :: .ref a_code :: .int v_size :: .ref a_letEnd :: .ref a_letBegin :: .ref a_sort :: .ref a_column :: .ref a_low :: .ref a_high :: .ref a_by :: .ref a_top :: .ref a_begins :: .ref a_ends :: .int v_hasScript :: .int v_scriptLets :: .int v_scriptQuestions :: .ref a_scriptCode :: .ref a_scriptLetBegin :: .ref a_scriptLetEnd :: .ref a_aSort :: .ref a_aColumn :: .ref a_aLow :: .ref a_aHigh :: .ref a_aBy :: .ref a_aTop :: .ref a_aBegin :: .ref a_anEnd :: .ref a_told :: .int v_toldCount :: .ref a_out :: .int v_outs :: .ref a_goals :: .ref a_withs :: .int v_goalCount :: .ref a_pile :: .ref a_letValue :: .ref a_one :: .ref a_two :: [])), (a_text, .inl (gI G, 2000, .inl f_text))] H := hP
  have hD : va_D A [(h, .inr (12, .int v_p :: .int v_q :: .ref a_table :: .int v_rows :: .ref a_tape :: .int v_cells :: .ref a_budget :: .ref a_spent :: .ref a_text :: .int v_signs :: .ref a_kinds :: .ref a_values :: .int v_tokens :: .ref a_scriptKinds :: .ref a_scriptValues :: .int v_scriptTokens :: .int r1 :: .int r1 :: .int v_kind :: .int 0 :: .int v_depth :: .int v_asked :: .int v_lets :: .int v_questions :: .int v_statements :: .ref a_isTold :: .ref a_letOf :: .ref a_code :: .int v_size :: .ref a_letEnd :: .ref a_letBegin :: .ref a_sort :: .ref a_column :: .ref a_low :: .ref a_high :: .ref a_by :: .ref a_top :: .ref a_begins :: .ref a_ends :: .int v_hasScript :: .int v_scriptLets :: .int v_scriptQuestions :: .ref a_scriptCode :: .ref a_scriptLetBegin :: .ref a_scriptLetEnd :: .ref a_aSort :: .ref a_aColumn :: .ref a_aLow :: .ref a_aHigh :: .ref a_aBy :: .ref a_aTop :: .ref a_aBegin :: .ref a_anEnd :: .ref a_told :: .int v_toldCount :: .ref a_out :: .int v_outs :: .ref a_goals :: .ref a_withs :: .int v_goalCount :: .ref a_pile :: .ref a_letValue :: .ref a_one :: .ref a_two :: [])), (a_text, .inl (gI G, 2000, .inl f_text))] := hD
  refine lv_aload_n hx hb d_Mo_look_51 rfl (lv_at hl 0 rfl) ?_
  refine va_get (D := G.1) (ci := 12) (C := R_Mo) (T := F_Mo) (N := 64) (v := .int r1) hx hb hts i_Mo hown hK hP 0 rfl rfl 16 (by decide) (hts (.fieldLink R_Mo 181 "PrivateQueriesModel" "at" "I") k_205) (fun _ h9 => h9) rfl d_Mo_look_52 ?_
  refine lv_aload_n hx hb d_Mo_look_55 rfl (lv_at hl 0 rfl) ?_
  refine va_get (D := G.1) (ci := 12) (C := R_Mo) (T := F_Mo) (N := 64) (v := .int v_signs) hx hb hts i_Mo hown hK hP 0 rfl rfl 9 (by decide) (hts (.fieldLink R_Mo 155 "PrivateQueriesModel" "signs" "I") k_177) (fun _ h9 => h9) rfl d_Mo_look_56 ?_
  refine lv_icmp_ne (tgt := 69) hx hb d_Mo_look_59 (by decide) (fun c1 => ?_) (fun c1 => ?_)
  · skip
    refine lv_aload_n hx hb d_Mo_look_69 rfl (lv_at hl 0 rfl) ?_
    refine va_get (D := G.1) (ci := 12) (C := R_Mo) (T := F_Mo) (N := 64) (v := .ref a_text) hx hb hts i_Mo hown hK hP 0 rfl rfl 8 (by decide) (hts (.fieldLink R_Mo 22 "PrivateQueriesModel" "text" "[I") k_196) (fun _ h9 => h9) rfl d_Mo_look_70 ?_
    refine lv_aload_n hx hb d_Mo_look_73 rfl (lv_at hl 0 rfl) ?_
    refine va_get (D := G.1) (ci := 12) (C := R_Mo) (T := F_Mo) (N := 64) (v := .int r1) hx hb hts i_Mo hown hK hP 0 rfl rfl 16 (by decide) (hts (.fieldLink R_Mo 181 "PrivateQueriesModel" "at" "I") k_205) (fun _ h9 => h9) rfl d_Mo_look_74 ?_
    refine va_iald hx hb hK hP 1 0 rfl rfl (hx_r1_hi.n c1).in d_Mo_look_77 ?_
    refine lv_istore_n (lv' := [(1, .int (f_text r1.toNatClampNeg)), (0, .ref h)]) hx hb d_Mo_look_78 rfl hl (by decide) rfl (fun ls hl => ?_)
    refine lv_iload_n hx hb d_Mo_look_79 rfl (lv_at hl 0 rfl) ?_
    obtain ⟨r2, hr2⟩ : ∃ r, (s_Mo_isSmall (f_text r1.toNatClampNeg)) = r := ⟨_, rfl⟩
    have hC_r2 := (c_Mo_isSmall l G (f_text r1.toNatClampNeg))
    rw [hr2] at hC_r2
    have hf_r2_1 : isB r2 := by rw [← hr2]; exact z_Mo_isSmall
    refine ly_callS (rest := []) (wf := [(h, .inr (12, .int v_p :: .int v_q :: .ref a_table :: .int v_rows :: .ref a_tape :: .int v_cells :: .ref a_budget :: .ref a_spent :: .ref a_text :: .int v_signs :: .ref a_kinds :: .ref a_values :: .int v_tokens :: .ref a_scriptKinds :: .ref a_scriptValues :: .int v_scriptTokens :: .int r1 :: .int r1 :: .int v_kind :: .int 0 :: .int v_depth :: .int v_asked :: .int v_lets :: .int v_questions :: .int v_statements :: .ref a_isTold :: .ref a_letOf :: .ref a_code :: .int v_size :: .ref a_letEnd :: .ref a_letBegin :: .ref a_sort :: .ref a_column :: .ref a_low :: .ref a_high :: .ref a_by :: .ref a_top :: .ref a_begins :: .ref a_ends :: .int v_hasScript :: .int v_scriptLets :: .int v_scriptQuestions :: .ref a_scriptCode :: .ref a_scriptLetBegin :: .ref a_scriptLetEnd :: .ref a_aSort :: .ref a_aColumn :: .ref a_aLow :: .ref a_aHigh :: .ref a_aBy :: .ref a_aTop :: .ref a_aBegin :: .ref a_anEnd :: .ref a_told :: .int v_toldCount :: .ref a_out :: .int v_outs :: .ref a_goals :: .ref a_withs :: .int v_goalCount :: .ref a_pile :: .ref a_letValue :: .ref a_one :: .ref a_two :: [])), (a_text, .inl (gI G, 2000, .inl f_text))]) ⟨hx, hb, hml, hown, hts⟩ hA hK hZ hP hD hS hC_r2 (cwS 1 hts g_Mo_205 rfl rfl rfl (by decide +kernel) ⟨Nat.le_of_ble_eq_true rfl, Nat.le_of_ble_eq_true rfl⟩) [] rfl (by decide) rfl rfl rfl hl.1 rfl (Nat.le_of_ble_eq_true rfl) d_Mo_look_80 ⟨Nat.le_of_ble_eq_true rfl, Nat.le_of_ble_eq_true rfl⟩ (st1 := [.int r2]) (c1 := 0) (s1 := 0) rfl rfl rfl (fun H locs hP hD hS => ?_)
    refine lv_if_eq (tgt := 144) hx hb d_Mo_look_83 (by decide) (fun c2 => ?_) (fun c2 => ?_)
    · skip
      refine lv_iload_n hx hb d_Mo_look_144 rfl (lv_at hl 0 rfl) ?_
      obtain ⟨r3, hr3⟩ : ∃ r, (s_Mo_isDigit (f_text r1.toNatClampNeg)) = r := ⟨_, rfl⟩
      have hC_r3 := (c_Mo_isDigit l G (f_text r1.toNatClampNeg))
      rw [hr3] at hC_r3
      have hf_r3_1 : isB r3 := by rw [← hr3]; exact z_Mo_isDigit
      refine ly_callS (rest := []) (wf := [(h, .inr (12, .int v_p :: .int v_q :: .ref a_table :: .int v_rows :: .ref a_tape :: .int v_cells :: .ref a_budget :: .ref a_spent :: .ref a_text :: .int v_signs :: .ref a_kinds :: .ref a_values :: .int v_tokens :: .ref a_scriptKinds :: .ref a_scriptValues :: .int v_scriptTokens :: .int r1 :: .int r1 :: .int v_kind :: .int 0 :: .int v_depth :: .int v_asked :: .int v_lets :: .int v_questions :: .int v_statements :: .ref a_isTold :: .ref a_letOf :: .ref a_code :: .int v_size :: .ref a_letEnd :: .ref a_letBegin :: .ref a_sort :: .ref a_column :: .ref a_low :: .ref a_high :: .ref a_by :: .ref a_top :: .ref a_begins :: .ref a_ends :: .int v_hasScript :: .int v_scriptLets :: .int v_scriptQuestions :: .ref a_scriptCode :: .ref a_scriptLetBegin :: .ref a_scriptLetEnd :: .ref a_aSort :: .ref a_aColumn :: .ref a_aLow :: .ref a_aHigh :: .ref a_aBy :: .ref a_aTop :: .ref a_aBegin :: .ref a_anEnd :: .ref a_told :: .int v_toldCount :: .ref a_out :: .int v_outs :: .ref a_goals :: .ref a_withs :: .int v_goalCount :: .ref a_pile :: .ref a_letValue :: .ref a_one :: .ref a_two :: [])), (a_text, .inl (gI G, 2000, .inl f_text))]) ⟨hx, hb, hml, hown, hts⟩ hA hK hZ hP hD hS hC_r3 (cwS 1 hts g_Mo_191 rfl rfl rfl (by decide +kernel) ⟨Nat.le_of_ble_eq_true rfl, Nat.le_of_ble_eq_true rfl⟩) [] rfl (by decide) rfl rfl rfl hl.1 rfl (Nat.le_of_ble_eq_true rfl) d_Mo_look_145 ⟨Nat.le_of_ble_eq_true rfl, Nat.le_of_ble_eq_true rfl⟩ (st1 := [.int r3]) (c1 := 0) (s1 := 0) rfl rfl rfl (fun H locs hP hD hS => ?_)
      refine lv_if_eq (tgt := 158) hx hb d_Mo_look_148 (by decide) (fun c3 => ?_) (fun c3 => ?_)
      · skip
        refine lv_iload_n hx hb d_Mo_look_158 rfl (lv_at hl 0 rfl) ?_
        refine lv_bipush (v := 60) hx hb d_Mo_look_159 (by decide) ?_
        refine lv_icmp_eq (tgt := 170) hx hb d_Mo_look_161 (by decide) (fun c4 => ?_) (fun c4 => ?_)
        · skip
          refine lv_aload_n hx hb d_Mo_look_170 rfl (lv_at hl 1 rfl) ?_
          obtain ⟨r4, hr4⟩ : ∃ r, (s_Mo_compareSign f_text v_signs r1) = r := ⟨_, rfl⟩
          have hC_r4 := (c_Mo_compareSign l G h a_table a_tape a_budget a_spent a_text a_kinds a_values a_scriptKinds a_scriptValues a_isTold a_letOf a_code a_letEnd a_letBegin a_sort a_column a_low a_high a_by a_top a_begins a_ends a_scriptCode a_scriptLetBegin a_scriptLetEnd a_aSort a_aColumn a_aLow a_aHigh a_aBy a_aTop a_aBegin a_anEnd a_told a_out a_goals a_withs a_pile a_letValue a_one a_two v_p v_q v_rows v_cells f_text v_signs v_tokens v_scriptTokens r1 r1 v_kind 0 v_depth v_asked v_lets v_questions v_statements v_size v_hasScript v_scriptLets v_scriptQuestions v_toldCount v_outs v_goalCount (hx_r1_hi.n c1))
          rw [hr4] at hC_r4
          refine ly_callV (rest := []) (wf := [(h, .inr (12, .int v_p :: .int v_q :: .ref a_table :: .int v_rows :: .ref a_tape :: .int v_cells :: .ref a_budget :: .ref a_spent :: .ref a_text :: .int v_signs :: .ref a_kinds :: .ref a_values :: .int v_tokens :: .ref a_scriptKinds :: .ref a_scriptValues :: .int v_scriptTokens :: .int r4.1 :: .int r1 :: .int r4.2 :: .int 0 :: .int v_depth :: .int v_asked :: .int v_lets :: .int v_questions :: .int v_statements :: .ref a_isTold :: .ref a_letOf :: .ref a_code :: .int v_size :: .ref a_letEnd :: .ref a_letBegin :: .ref a_sort :: .ref a_column :: .ref a_low :: .ref a_high :: .ref a_by :: .ref a_top :: .ref a_begins :: .ref a_ends :: .int v_hasScript :: .int v_scriptLets :: .int v_scriptQuestions :: .ref a_scriptCode :: .ref a_scriptLetBegin :: .ref a_scriptLetEnd :: .ref a_aSort :: .ref a_aColumn :: .ref a_aLow :: .ref a_aHigh :: .ref a_aBy :: .ref a_aTop :: .ref a_aBegin :: .ref a_anEnd :: .ref a_told :: .int v_toldCount :: .ref a_out :: .int v_outs :: .ref a_goals :: .ref a_withs :: .int v_goalCount :: .ref a_pile :: .ref a_letValue :: .ref a_one :: .ref a_two :: [])), (a_text, .inl (gI G, 2000, .inl f_text))]) ⟨hx, hb, hml, hown, hts⟩ hA hK hZ hP hD hS hC_r4 (cwV 0 hts g_Mo_214 rfl rfl rfl (by decide +kernel) ⟨Nat.le_of_ble_eq_true rfl, Nat.le_of_ble_eq_true rfl⟩) (ci := 12) (q0 := 0) rfl rfl rfl [0, 1] rfl (by decide) rfl rfl rfl hl.1 rfl (Nat.le_of_ble_eq_true rfl) d_Mo_look_171 ⟨Nat.le_of_ble_eq_true rfl, Nat.le_of_ble_eq_true rfl⟩ (st1 := []) (c1 := 0) (s1 := 0) rfl rfl rfl (fun H locs hP hD hS => ?_)
          refine lv_goto (tgt := 196) hx hb d_Mo_look_174 (by decide) ?_
          exact ly_vret hx hb hr hlocks hP hD hS d_Mo_look_196 rfl (by rw [s_Mo_look] <;> simp only [hr1, hr2, hr3, hr4] <;> rw [if_neg c1, if_pos c2, if_pos c3, if_pos c4])
        refine lv_iload_n hx hb d_Mo_look_164 rfl (lv_at hl 0 rfl) ?_
        refine lv_bipush (v := 62) hx hb d_Mo_look_165 (by decide) ?_
        refine lv_icmp_ne (tgt := 177) hx hb d_Mo_look_167 (by decide) (fun c5 => ?_) (fun c5 => ?_)
        · skip
          refine lv_aload_n hx hb d_Mo_look_177 rfl (lv_at hl 1 rfl) ?_
          refine lv_aload_n hx hb d_Mo_look_178 rfl (lv_at hl 1 rfl) ?_
          refine lv_iload_n hx hb d_Mo_look_179 rfl (lv_at hl 0 rfl) ?_
          obtain ⟨r5, hr5⟩ : ∃ r, (s_Mo_signKind (f_text r1.toNatClampNeg)) = r := ⟨_, rfl⟩
          have hC_r5 := (c_Mo_signKind l G h (f_text r1.toNatClampNeg))
          rw [hr5] at hC_r5
          refine ly_callV (rest := [.ref h]) (wf := [(h, .inr (12, .int v_p :: .int v_q :: .ref a_table :: .int v_rows :: .ref a_tape :: .int v_cells :: .ref a_budget :: .ref a_spent :: .ref a_text :: .int v_signs :: .ref a_kinds :: .ref a_values :: .int v_tokens :: .ref a_scriptKinds :: .ref a_scriptValues :: .int v_scriptTokens :: .int r1 :: .int r1 :: .int v_kind :: .int 0 :: .int v_depth :: .int v_asked :: .int v_lets :: .int v_questions :: .int v_statements :: .ref a_isTold :: .ref a_letOf :: .ref a_code :: .int v_size :: .ref a_letEnd :: .ref a_letBegin :: .ref a_sort :: .ref a_column :: .ref a_low :: .ref a_high :: .ref a_by :: .ref a_top :: .ref a_begins :: .ref a_ends :: .int v_hasScript :: .int v_scriptLets :: .int v_scriptQuestions :: .ref a_scriptCode :: .ref a_scriptLetBegin :: .ref a_scriptLetEnd :: .ref a_aSort :: .ref a_aColumn :: .ref a_aLow :: .ref a_aHigh :: .ref a_aBy :: .ref a_aTop :: .ref a_aBegin :: .ref a_anEnd :: .ref a_told :: .int v_toldCount :: .ref a_out :: .int v_outs :: .ref a_goals :: .ref a_withs :: .int v_goalCount :: .ref a_pile :: .ref a_letValue :: .ref a_one :: .ref a_two :: [])), (a_text, .inl (gI G, 2000, .inl f_text))]) ⟨hx, hb, hml, hown, hts⟩ hA hK hZ hP hD hS hC_r5 (cwV 1 hts g_Mo_217 rfl rfl rfl (by decide +kernel) ⟨Nat.le_of_ble_eq_true rfl, Nat.le_of_ble_eq_true rfl⟩) (ci := 12) (q0 := 0) rfl rfl rfl [] rfl (by decide) rfl rfl rfl hl.1 rfl (Nat.le_of_ble_eq_true rfl) d_Mo_look_180 ⟨Nat.le_of_ble_eq_true rfl, Nat.le_of_ble_eq_true rfl⟩ (st1 := [.int r5, .ref h]) (c1 := 0) (s1 := 0) rfl rfl rfl (fun H locs hP hD hS => ?_)
          refine va_put (D := G.1) (ci := 12) (v := .int r5) (ty := .int) (C := R_Mo) (T := F_Mo) (N := 64) hx hb hts i_Mo t_Mo t_Mo_ok n_Mo hown hK hP hD hS 0 rfl rfl 18 (by decide) (hts (.fieldLink R_Mo 188 "PrivateQueriesModel" "kind" "I") k_181) (fun _ h9 => h9) rfl (by decide +kernel) rfl rfl (Nat.le_of_ble_eq_true rfl) d_Mo_look_183 (fun H locs hP hD hS => ?_)
          have hP : va_P G.1 classes [(h, .inr (12, .int v_p :: .int v_q :: .ref a_table :: .int v_rows :: .ref a_tape :: .int v_cells :: .ref a_budget :: .ref a_spent :: .ref a_text :: .int v_signs :: .ref a_kinds :: .ref a_values :: .int v_tokens :: .ref a_scriptKinds :: .ref a_scriptValues :: .int v_scriptTokens :: .int r1 :: .int r1 :: .int r5 :: .int 0 :: .int v_depth :: .int v_asked :: .int v_lets :: .int v_questions :: .int v_statements :: .ref a_isTold :: .ref a_letOf :: .ref a_code :: .int v_size :: .ref a_letEnd :: .ref a_letBegin :: .ref a_sort :: .ref a_column :: .ref a_low :: .ref a_high :: .ref a_by :: .ref a_top :: .ref a_begins :: .ref a_ends :: .int v_hasScript :: .int v_scriptLets :: .int v_scriptQuestions :: .ref a_scriptCode :: .ref a_scriptLetBegin :: .ref a_scriptLetEnd :: .ref a_aSort :: .ref a_aColumn :: .ref a_aLow :: .ref a_aHigh :: .ref a_aBy :: .ref a_aTop :: .ref a_aBegin :: .ref a_anEnd :: .ref a_told :: .int v_toldCount :: .ref a_out :: .int v_outs :: .ref a_goals :: .ref a_withs :: .int v_goalCount :: .ref a_pile :: .ref a_letValue :: .ref a_one :: .ref a_two :: [])), (a_text, .inl (gI G, 2000, .inl f_text))] H := hP
          have hD : va_D A [(h, .inr (12, .int v_p :: .int v_q :: .ref a_table :: .int v_rows :: .ref a_tape :: .int v_cells :: .ref a_budget :: .ref a_spent :: .ref a_text :: .int v_signs :: .ref a_kinds :: .ref a_values :: .int v_tokens :: .ref a_scriptKinds :: .ref a_scriptValues :: .int v_scriptTokens :: .int r1 :: .int r1 :: .int r5 :: .int 0 :: .int v_depth :: .int v_asked :: .int v_lets :: .int v_questions :: .int v_statements :: .ref a_isTold :: .ref a_letOf :: .ref a_code :: .int v_size :: .ref a_letEnd :: .ref a_letBegin :: .ref a_sort :: .ref a_column :: .ref a_low :: .ref a_high :: .ref a_by :: .ref a_top :: .ref a_begins :: .ref a_ends :: .int v_hasScript :: .int v_scriptLets :: .int v_scriptQuestions :: .ref a_scriptCode :: .ref a_scriptLetBegin :: .ref a_scriptLetEnd :: .ref a_aSort :: .ref a_aColumn :: .ref a_aLow :: .ref a_aHigh :: .ref a_aBy :: .ref a_aTop :: .ref a_aBegin :: .ref a_anEnd :: .ref a_told :: .int v_toldCount :: .ref a_out :: .int v_outs :: .ref a_goals :: .ref a_withs :: .int v_goalCount :: .ref a_pile :: .ref a_letValue :: .ref a_one :: .ref a_two :: [])), (a_text, .inl (gI G, 2000, .inl f_text))] := hD
          refine lv_aload_n hx hb d_Mo_look_186 rfl (lv_at hl 1 rfl) ?_
          refine lv_dup hx hb d_Mo_look_187 rfl ?_
          refine va_get (D := G.1) (ci := 12) (C := R_Mo) (T := F_Mo) (N := 64) (v := .int r1) hx hb hts i_Mo hown hK hP 0 rfl rfl 16 (by decide) (hts (.fieldLink R_Mo 181 "PrivateQueriesModel" "at" "I") k_205) (fun _ h9 => h9) rfl d_Mo_look_188 ?_
          refine lv_iconst (v := 1) hx hb d_Mo_look_191 (by decide) ?_
          refine lv_iadd hx hb d_Mo_look_192 ?_
          refine va_put (D := G.1) (ci := 12) (v := .int (r1 + 1)) (ty := .int) (C := R_Mo) (T := F_Mo) (N := 64) hx hb hts i_Mo t_Mo t_Mo_ok n_Mo hown hK hP hD hS 0 rfl rfl 16 (by decide) (hts (.fieldLink R_Mo 181 "PrivateQueriesModel" "at" "I") k_205) (fun _ h9 => h9) rfl (by decide +kernel) rfl rfl (Nat.le_of_ble_eq_true rfl) d_Mo_look_193 (fun H locs hP hD hS => ?_)
          have hP : va_P G.1 classes [(h, .inr (12, .int v_p :: .int v_q :: .ref a_table :: .int v_rows :: .ref a_tape :: .int v_cells :: .ref a_budget :: .ref a_spent :: .ref a_text :: .int v_signs :: .ref a_kinds :: .ref a_values :: .int v_tokens :: .ref a_scriptKinds :: .ref a_scriptValues :: .int v_scriptTokens :: .int (r1 + 1) :: .int r1 :: .int r5 :: .int 0 :: .int v_depth :: .int v_asked :: .int v_lets :: .int v_questions :: .int v_statements :: .ref a_isTold :: .ref a_letOf :: .ref a_code :: .int v_size :: .ref a_letEnd :: .ref a_letBegin :: .ref a_sort :: .ref a_column :: .ref a_low :: .ref a_high :: .ref a_by :: .ref a_top :: .ref a_begins :: .ref a_ends :: .int v_hasScript :: .int v_scriptLets :: .int v_scriptQuestions :: .ref a_scriptCode :: .ref a_scriptLetBegin :: .ref a_scriptLetEnd :: .ref a_aSort :: .ref a_aColumn :: .ref a_aLow :: .ref a_aHigh :: .ref a_aBy :: .ref a_aTop :: .ref a_aBegin :: .ref a_anEnd :: .ref a_told :: .int v_toldCount :: .ref a_out :: .int v_outs :: .ref a_goals :: .ref a_withs :: .int v_goalCount :: .ref a_pile :: .ref a_letValue :: .ref a_one :: .ref a_two :: [])), (a_text, .inl (gI G, 2000, .inl f_text))] H := hP
          have hD : va_D A [(h, .inr (12, .int v_p :: .int v_q :: .ref a_table :: .int v_rows :: .ref a_tape :: .int v_cells :: .ref a_budget :: .ref a_spent :: .ref a_text :: .int v_signs :: .ref a_kinds :: .ref a_values :: .int v_tokens :: .ref a_scriptKinds :: .ref a_scriptValues :: .int v_scriptTokens :: .int (r1 + 1) :: .int r1 :: .int r5 :: .int 0 :: .int v_depth :: .int v_asked :: .int v_lets :: .int v_questions :: .int v_statements :: .ref a_isTold :: .ref a_letOf :: .ref a_code :: .int v_size :: .ref a_letEnd :: .ref a_letBegin :: .ref a_sort :: .ref a_column :: .ref a_low :: .ref a_high :: .ref a_by :: .ref a_top :: .ref a_begins :: .ref a_ends :: .int v_hasScript :: .int v_scriptLets :: .int v_scriptQuestions :: .ref a_scriptCode :: .ref a_scriptLetBegin :: .ref a_scriptLetEnd :: .ref a_aSort :: .ref a_aColumn :: .ref a_aLow :: .ref a_aHigh :: .ref a_aBy :: .ref a_aTop :: .ref a_aBegin :: .ref a_anEnd :: .ref a_told :: .int v_toldCount :: .ref a_out :: .int v_outs :: .ref a_goals :: .ref a_withs :: .int v_goalCount :: .ref a_pile :: .ref a_letValue :: .ref a_one :: .ref a_two :: [])), (a_text, .inl (gI G, 2000, .inl f_text))] := hD
          exact ly_vret hx hb hr hlocks hP hD hS d_Mo_look_196 rfl (by rw [s_Mo_look] <;> simp only [hr1, hr2, hr3, hr5] <;> rw [if_neg c1, if_pos c2, if_pos c3, if_neg c4, if_neg c5])
        refine lv_aload_n hx hb d_Mo_look_170 rfl (lv_at hl 1 rfl) ?_
        obtain ⟨r6, hr6⟩ : ∃ r, (s_Mo_compareSign f_text v_signs r1) = r := ⟨_, rfl⟩
        have hC_r6 := (c_Mo_compareSign l G h a_table a_tape a_budget a_spent a_text a_kinds a_values a_scriptKinds a_scriptValues a_isTold a_letOf a_code a_letEnd a_letBegin a_sort a_column a_low a_high a_by a_top a_begins a_ends a_scriptCode a_scriptLetBegin a_scriptLetEnd a_aSort a_aColumn a_aLow a_aHigh a_aBy a_aTop a_aBegin a_anEnd a_told a_out a_goals a_withs a_pile a_letValue a_one a_two v_p v_q v_rows v_cells f_text v_signs v_tokens v_scriptTokens r1 r1 v_kind 0 v_depth v_asked v_lets v_questions v_statements v_size v_hasScript v_scriptLets v_scriptQuestions v_toldCount v_outs v_goalCount (hx_r1_hi.n c1))
        rw [hr6] at hC_r6
        refine ly_callV (rest := []) (wf := [(h, .inr (12, .int v_p :: .int v_q :: .ref a_table :: .int v_rows :: .ref a_tape :: .int v_cells :: .ref a_budget :: .ref a_spent :: .ref a_text :: .int v_signs :: .ref a_kinds :: .ref a_values :: .int v_tokens :: .ref a_scriptKinds :: .ref a_scriptValues :: .int v_scriptTokens :: .int r6.1 :: .int r1 :: .int r6.2 :: .int 0 :: .int v_depth :: .int v_asked :: .int v_lets :: .int v_questions :: .int v_statements :: .ref a_isTold :: .ref a_letOf :: .ref a_code :: .int v_size :: .ref a_letEnd :: .ref a_letBegin :: .ref a_sort :: .ref a_column :: .ref a_low :: .ref a_high :: .ref a_by :: .ref a_top :: .ref a_begins :: .ref a_ends :: .int v_hasScript :: .int v_scriptLets :: .int v_scriptQuestions :: .ref a_scriptCode :: .ref a_scriptLetBegin :: .ref a_scriptLetEnd :: .ref a_aSort :: .ref a_aColumn :: .ref a_aLow :: .ref a_aHigh :: .ref a_aBy :: .ref a_aTop :: .ref a_aBegin :: .ref a_anEnd :: .ref a_told :: .int v_toldCount :: .ref a_out :: .int v_outs :: .ref a_goals :: .ref a_withs :: .int v_goalCount :: .ref a_pile :: .ref a_letValue :: .ref a_one :: .ref a_two :: [])), (a_text, .inl (gI G, 2000, .inl f_text))]) ⟨hx, hb, hml, hown, hts⟩ hA hK hZ hP hD hS hC_r6 (cwV 0 hts g_Mo_214 rfl rfl rfl (by decide +kernel) ⟨Nat.le_of_ble_eq_true rfl, Nat.le_of_ble_eq_true rfl⟩) (ci := 12) (q0 := 0) rfl rfl rfl [0, 1] rfl (by decide) rfl rfl rfl hl.1 rfl (Nat.le_of_ble_eq_true rfl) d_Mo_look_171 ⟨Nat.le_of_ble_eq_true rfl, Nat.le_of_ble_eq_true rfl⟩ (st1 := []) (c1 := 0) (s1 := 0) rfl rfl rfl (fun H locs hP hD hS => ?_)
        refine lv_goto (tgt := 196) hx hb d_Mo_look_174 (by decide) ?_
        exact ly_vret hx hb hr hlocks hP hD hS d_Mo_look_196 rfl (by rw [s_Mo_look] <;> simp only [hr1, hr2, hr3, hr6] <;> rw [if_neg c1, if_pos c2, if_pos c3, if_neg c4, if_pos c5])
      refine lv_aload_n hx hb d_Mo_look_151 rfl (lv_at hl 1 rfl) ?_
      obtain ⟨r7, hr7⟩ : ∃ r, (lp_Mo_readNumber_8 f_text v_signs (((v_signs.toInt - r1.toInt).toNat) + 1) 0 r1 (15 : Int32)) = r := ⟨_, rfl⟩
      have hC_r7 := (c_Mo_readNumber l G h a_table a_tape a_budget a_spent a_text a_kinds a_values a_scriptKinds a_scriptValues a_isTold a_letOf a_code a_letEnd a_letBegin a_sort a_column a_low a_high a_by a_top a_begins a_ends a_scriptCode a_scriptLetBegin a_scriptLetEnd a_aSort a_aColumn a_aLow a_aHigh a_aBy a_aTop a_aBegin a_anEnd a_told a_out a_goals a_withs a_pile a_letValue a_one a_two v_p v_q v_rows v_cells f_text v_signs v_tokens v_scriptTokens r1 r1 v_kind 0 v_depth v_asked v_lets v_questions v_statements v_size v_hasScript v_scriptLets v_scriptQuestions v_toldCount v_outs v_goalCount hx_r1_hi)
      rw [hr7] at hC_r7
      refine ly_callV (rest := []) (wf := [(h, .inr (12, .int v_p :: .int v_q :: .ref a_table :: .int v_rows :: .ref a_tape :: .int v_cells :: .ref a_budget :: .ref a_spent :: .ref a_text :: .int v_signs :: .ref a_kinds :: .ref a_values :: .int v_tokens :: .ref a_scriptKinds :: .ref a_scriptValues :: .int v_scriptTokens :: .int r7.1 :: .int r1 :: .int r7.2.1 :: .int r7.2.2 :: .int v_depth :: .int v_asked :: .int v_lets :: .int v_questions :: .int v_statements :: .ref a_isTold :: .ref a_letOf :: .ref a_code :: .int v_size :: .ref a_letEnd :: .ref a_letBegin :: .ref a_sort :: .ref a_column :: .ref a_low :: .ref a_high :: .ref a_by :: .ref a_top :: .ref a_begins :: .ref a_ends :: .int v_hasScript :: .int v_scriptLets :: .int v_scriptQuestions :: .ref a_scriptCode :: .ref a_scriptLetBegin :: .ref a_scriptLetEnd :: .ref a_aSort :: .ref a_aColumn :: .ref a_aLow :: .ref a_aHigh :: .ref a_aBy :: .ref a_aTop :: .ref a_aBegin :: .ref a_anEnd :: .ref a_told :: .int v_toldCount :: .ref a_out :: .int v_outs :: .ref a_goals :: .ref a_withs :: .int v_goalCount :: .ref a_pile :: .ref a_letValue :: .ref a_one :: .ref a_two :: [])), (a_text, .inl (gI G, 2000, .inl f_text))]) ⟨hx, hb, hml, hown, hts⟩ hA hK hZ hP hD hS hC_r7 (cwV 0 hts g_Mo_211 rfl rfl rfl (by decide +kernel) ⟨Nat.le_of_ble_eq_true rfl, Nat.le_of_ble_eq_true rfl⟩) (ci := 12) (q0 := 0) rfl rfl rfl [0, 1] rfl (by decide) rfl rfl rfl hl.1 rfl (Nat.le_of_ble_eq_true rfl) d_Mo_look_152 ⟨Nat.le_of_ble_eq_true rfl, Nat.le_of_ble_eq_true rfl⟩ (st1 := []) (c1 := 0) (s1 := 0) rfl rfl rfl (fun H locs hP hD hS => ?_)
      refine lv_goto (tgt := 196) hx hb d_Mo_look_155 (by decide) ?_
      exact ly_vret hx hb hr hlocks hP hD hS d_Mo_look_196 rfl (by rw [s_Mo_look] <;> simp only [hr1, hr2, hr3, hr7] <;> rw [if_neg c1, if_pos c2, if_neg c3])
    obtain ⟨r8, hr8⟩ : ∃ r, (lp_Mo_look_86 f_text v_signs (((v_signs.toInt - r1.toInt).toNat) + 1) (f_text r1.toNatClampNeg) r1 r1 (0 : Int32)) = r := ⟨_, rfl⟩
    refine loop_86 _ (((v_signs.toInt - r1.toInt).toNat) + 1) (f_text r1.toNatClampNeg) r1 r1 (0 : Int32) ⟨hx_r1_hi, Int.le_refl _⟩ (Nat.lt_succ_self _) _ _ _ hP hD hS (lv_sub hl [0, 1] rfl) (fun H locs ls hx_r8_hi hx_r8_ho hP hD hS hl => ?_)
    try rw [hr8] at hx_r8_hi
    try rw [hr8] at hx_r8_ho
    try rw [hr8] at hP
    try rw [hr8] at hD
    try rw [hr8] at hl
    have hP : va_P G.1 classes [(h, .inr (12, .int v_p :: .int v_q :: .ref a_table :: .int v_rows :: .ref a_tape :: .int v_cells :: .ref a_budget :: .ref a_spent :: .ref a_text :: .int v_signs :: .ref a_kinds :: .ref a_values :: .int v_tokens :: .ref a_scriptKinds :: .ref a_scriptValues :: .int v_scriptTokens :: .int r8 :: .int r1 :: .int v_kind :: .int 0 :: .int v_depth :: .int v_asked :: .int v_lets :: .int v_questions :: .int v_statements :: .ref a_isTold :: .ref a_letOf :: .ref a_code :: .int v_size :: .ref a_letEnd :: .ref a_letBegin :: .ref a_sort :: .ref a_column :: .ref a_low :: .ref a_high :: .ref a_by :: .ref a_top :: .ref a_begins :: .ref a_ends :: .int v_hasScript :: .int v_scriptLets :: .int v_scriptQuestions :: .ref a_scriptCode :: .ref a_scriptLetBegin :: .ref a_scriptLetEnd :: .ref a_aSort :: .ref a_aColumn :: .ref a_aLow :: .ref a_aHigh :: .ref a_aBy :: .ref a_aTop :: .ref a_aBegin :: .ref a_anEnd :: .ref a_told :: .int v_toldCount :: .ref a_out :: .int v_outs :: .ref a_goals :: .ref a_withs :: .int v_goalCount :: .ref a_pile :: .ref a_letValue :: .ref a_one :: .ref a_two :: [])), (a_text, .inl (gI G, 2000, .inl f_text))] H := hP
    have hD : va_D A [(h, .inr (12, .int v_p :: .int v_q :: .ref a_table :: .int v_rows :: .ref a_tape :: .int v_cells :: .ref a_budget :: .ref a_spent :: .ref a_text :: .int v_signs :: .ref a_kinds :: .ref a_values :: .int v_tokens :: .ref a_scriptKinds :: .ref a_scriptValues :: .int v_scriptTokens :: .int r8 :: .int r1 :: .int v_kind :: .int 0 :: .int v_depth :: .int v_asked :: .int v_lets :: .int v_questions :: .int v_statements :: .ref a_isTold :: .ref a_letOf :: .ref a_code :: .int v_size :: .ref a_letEnd :: .ref a_letBegin :: .ref a_sort :: .ref a_column :: .ref a_low :: .ref a_high :: .ref a_by :: .ref a_top :: .ref a_begins :: .ref a_ends :: .int v_hasScript :: .int v_scriptLets :: .int v_scriptQuestions :: .ref a_scriptCode :: .ref a_scriptLetBegin :: .ref a_scriptLetEnd :: .ref a_aSort :: .ref a_aColumn :: .ref a_aLow :: .ref a_aHigh :: .ref a_aBy :: .ref a_aTop :: .ref a_aBegin :: .ref a_anEnd :: .ref a_told :: .int v_toldCount :: .ref a_out :: .int v_outs :: .ref a_goals :: .ref a_withs :: .int v_goalCount :: .ref a_pile :: .ref a_letValue :: .ref a_one :: .ref a_two :: [])), (a_text, .inl (gI G, 2000, .inl f_text))] := hD
    have hl : lv_has ls 2 [(1, .int (f_text r1.toNatClampNeg)), (0, .ref h)] := hl
    refine lv_aload_n hx hb d_Mo_look_125 rfl (lv_at hl 1 rfl) ?_
    refine lv_aload_n hx hb d_Mo_look_126 rfl (lv_at hl 1 rfl) ?_
    refine lv_aload_n hx hb d_Mo_look_127 rfl (lv_at hl 1 rfl) ?_
    refine va_get (D := G.1) (ci := 12) (C := R_Mo) (T := F_Mo) (N := 64) (v := .int r1) hx hb hts i_Mo hown hK hP 0 rfl rfl 17 (by decide) (hts (.fieldLink R_Mo 202 "PrivateQueriesModel" "place" "I") k_217) (fun _ h9 => h9) rfl d_Mo_look_128 ?_
    refine lv_aload_n hx hb d_Mo_look_131 rfl (lv_at hl 1 rfl) ?_
    refine va_get (D := G.1) (ci := 12) (C := R_Mo) (T := F_Mo) (N := 64) (v := .int r8) hx hb hts i_Mo hown hK hP 0 rfl rfl 16 (by decide) (hts (.fieldLink R_Mo 181 "PrivateQueriesModel" "at" "I") k_205) (fun _ h9 => h9) rfl d_Mo_look_132 ?_
    obtain ⟨r9, hr9⟩ : ∃ r, (s_Mo_classify f_text 0 r1 r8) = r := ⟨_, rfl⟩
    have hC_r9 := (c_Mo_classify l G h a_table a_tape a_budget a_spent a_text a_kinds a_values a_scriptKinds a_scriptValues a_isTold a_letOf a_code a_letEnd a_letBegin a_sort a_column a_low a_high a_by a_top a_begins a_ends a_scriptCode a_scriptLetBegin a_scriptLetEnd a_aSort a_aColumn a_aLow a_aHigh a_aBy a_aTop a_aBegin a_anEnd a_told a_out a_goals a_withs a_pile a_letValue a_one a_two v_p v_q v_rows v_cells f_text v_signs v_tokens v_scriptTokens r8 r1 v_kind 0 v_depth v_asked v_lets v_questions v_statements v_size v_hasScript v_scriptLets v_scriptQuestions v_toldCount v_outs v_goalCount r1 r8 hx_r1_hi.1 (lk_2k hx_r8_hi.1) (lk_lt (hx_r1_hi.n c1) (by rw [hr2]; exact c2) hx_r8_hi hx_r8_ho))
    rw [hr9] at hC_r9
    refine ly_callV (rest := [.ref h]) (wf := [(h, .inr (12, .int v_p :: .int v_q :: .ref a_table :: .int v_rows :: .ref a_tape :: .int v_cells :: .ref a_budget :: .ref a_spent :: .ref a_text :: .int v_signs :: .ref a_kinds :: .ref a_values :: .int v_tokens :: .ref a_scriptKinds :: .ref a_scriptValues :: .int v_scriptTokens :: .int r8 :: .int r1 :: .int v_kind :: .int r9.2 :: .int v_depth :: .int v_asked :: .int v_lets :: .int v_questions :: .int v_statements :: .ref a_isTold :: .ref a_letOf :: .ref a_code :: .int v_size :: .ref a_letEnd :: .ref a_letBegin :: .ref a_sort :: .ref a_column :: .ref a_low :: .ref a_high :: .ref a_by :: .ref a_top :: .ref a_begins :: .ref a_ends :: .int v_hasScript :: .int v_scriptLets :: .int v_scriptQuestions :: .ref a_scriptCode :: .ref a_scriptLetBegin :: .ref a_scriptLetEnd :: .ref a_aSort :: .ref a_aColumn :: .ref a_aLow :: .ref a_aHigh :: .ref a_aBy :: .ref a_aTop :: .ref a_aBegin :: .ref a_anEnd :: .ref a_told :: .int v_toldCount :: .ref a_out :: .int v_outs :: .ref a_goals :: .ref a_withs :: .int v_goalCount :: .ref a_pile :: .ref a_letValue :: .ref a_one :: .ref a_two :: [])), (a_text, .inl (gI G, 2000, .inl f_text))]) ⟨hx, hb, hml, hown, hts⟩ hA hK hZ hP hD hS hC_r9 (cwV 2 hts g_Mo_208 rfl rfl rfl (by decide +kernel) ⟨Nat.le_of_ble_eq_true rfl, Nat.le_of_ble_eq_true rfl⟩) (ci := 12) (q0 := 0) rfl rfl rfl [0, 1] rfl (by decide) rfl rfl rfl hl.1 rfl (Nat.le_of_ble_eq_true rfl) d_Mo_look_135 ⟨Nat.le_of_ble_eq_true rfl, Nat.le_of_ble_eq_true rfl⟩ (st1 := [.int r9.1, .ref h]) (c1 := 0) (s1 := 0) rfl rfl rfl (fun H locs hP hD hS => ?_)
    refine va_put (D := G.1) (ci := 12) (v := .int r9.1) (ty := .int) (C := R_Mo) (T := F_Mo) (N := 64) hx hb hts i_Mo t_Mo t_Mo_ok n_Mo hown hK hP hD hS 0 rfl rfl 18 (by decide) (hts (.fieldLink R_Mo 188 "PrivateQueriesModel" "kind" "I") k_181) (fun _ h9 => h9) rfl (by decide +kernel) rfl rfl (Nat.le_of_ble_eq_true rfl) d_Mo_look_138 (fun H locs hP hD hS => ?_)
    have hP : va_P G.1 classes [(h, .inr (12, .int v_p :: .int v_q :: .ref a_table :: .int v_rows :: .ref a_tape :: .int v_cells :: .ref a_budget :: .ref a_spent :: .ref a_text :: .int v_signs :: .ref a_kinds :: .ref a_values :: .int v_tokens :: .ref a_scriptKinds :: .ref a_scriptValues :: .int v_scriptTokens :: .int r8 :: .int r1 :: .int r9.1 :: .int r9.2 :: .int v_depth :: .int v_asked :: .int v_lets :: .int v_questions :: .int v_statements :: .ref a_isTold :: .ref a_letOf :: .ref a_code :: .int v_size :: .ref a_letEnd :: .ref a_letBegin :: .ref a_sort :: .ref a_column :: .ref a_low :: .ref a_high :: .ref a_by :: .ref a_top :: .ref a_begins :: .ref a_ends :: .int v_hasScript :: .int v_scriptLets :: .int v_scriptQuestions :: .ref a_scriptCode :: .ref a_scriptLetBegin :: .ref a_scriptLetEnd :: .ref a_aSort :: .ref a_aColumn :: .ref a_aLow :: .ref a_aHigh :: .ref a_aBy :: .ref a_aTop :: .ref a_aBegin :: .ref a_anEnd :: .ref a_told :: .int v_toldCount :: .ref a_out :: .int v_outs :: .ref a_goals :: .ref a_withs :: .int v_goalCount :: .ref a_pile :: .ref a_letValue :: .ref a_one :: .ref a_two :: [])), (a_text, .inl (gI G, 2000, .inl f_text))] H := hP
    have hD : va_D A [(h, .inr (12, .int v_p :: .int v_q :: .ref a_table :: .int v_rows :: .ref a_tape :: .int v_cells :: .ref a_budget :: .ref a_spent :: .ref a_text :: .int v_signs :: .ref a_kinds :: .ref a_values :: .int v_tokens :: .ref a_scriptKinds :: .ref a_scriptValues :: .int v_scriptTokens :: .int r8 :: .int r1 :: .int r9.1 :: .int r9.2 :: .int v_depth :: .int v_asked :: .int v_lets :: .int v_questions :: .int v_statements :: .ref a_isTold :: .ref a_letOf :: .ref a_code :: .int v_size :: .ref a_letEnd :: .ref a_letBegin :: .ref a_sort :: .ref a_column :: .ref a_low :: .ref a_high :: .ref a_by :: .ref a_top :: .ref a_begins :: .ref a_ends :: .int v_hasScript :: .int v_scriptLets :: .int v_scriptQuestions :: .ref a_scriptCode :: .ref a_scriptLetBegin :: .ref a_scriptLetEnd :: .ref a_aSort :: .ref a_aColumn :: .ref a_aLow :: .ref a_aHigh :: .ref a_aBy :: .ref a_aTop :: .ref a_aBegin :: .ref a_anEnd :: .ref a_told :: .int v_toldCount :: .ref a_out :: .int v_outs :: .ref a_goals :: .ref a_withs :: .int v_goalCount :: .ref a_pile :: .ref a_letValue :: .ref a_one :: .ref a_two :: [])), (a_text, .inl (gI G, 2000, .inl f_text))] := hD
    refine lv_goto (tgt := 196) hx hb d_Mo_look_141 (by decide) ?_
    exact ly_vret hx hb hr hlocks hP hD hS d_Mo_look_196 rfl (by rw [s_Mo_look] <;> simp only [hr1, hr2, hr8, hr9] <;> rw [if_neg c1, if_neg c2])
  refine lv_aload_n hx hb d_Mo_look_62 rfl (lv_at hl 0 rfl) ?_
  refine lv_bipush (v := 30) hx hb d_Mo_look_63 (by decide) ?_
  refine va_put (D := G.1) (ci := 12) (v := .int 30) (ty := .int) (C := R_Mo) (T := F_Mo) (N := 64) hx hb hts i_Mo t_Mo t_Mo_ok n_Mo hown hK hP hD hS 0 rfl rfl 18 (by decide) (hts (.fieldLink R_Mo 188 "PrivateQueriesModel" "kind" "I") k_181) (fun _ h9 => h9) rfl (by decide +kernel) rfl rfl (Nat.le_of_ble_eq_true rfl) d_Mo_look_65 (fun H locs hP hD hS => ?_)
  have hP : va_P G.1 classes [(h, .inr (12, .int v_p :: .int v_q :: .ref a_table :: .int v_rows :: .ref a_tape :: .int v_cells :: .ref a_budget :: .ref a_spent :: .ref a_text :: .int v_signs :: .ref a_kinds :: .ref a_values :: .int v_tokens :: .ref a_scriptKinds :: .ref a_scriptValues :: .int v_scriptTokens :: .int r1 :: .int r1 :: .int 30 :: .int 0 :: .int v_depth :: .int v_asked :: .int v_lets :: .int v_questions :: .int v_statements :: .ref a_isTold :: .ref a_letOf :: .ref a_code :: .int v_size :: .ref a_letEnd :: .ref a_letBegin :: .ref a_sort :: .ref a_column :: .ref a_low :: .ref a_high :: .ref a_by :: .ref a_top :: .ref a_begins :: .ref a_ends :: .int v_hasScript :: .int v_scriptLets :: .int v_scriptQuestions :: .ref a_scriptCode :: .ref a_scriptLetBegin :: .ref a_scriptLetEnd :: .ref a_aSort :: .ref a_aColumn :: .ref a_aLow :: .ref a_aHigh :: .ref a_aBy :: .ref a_aTop :: .ref a_aBegin :: .ref a_anEnd :: .ref a_told :: .int v_toldCount :: .ref a_out :: .int v_outs :: .ref a_goals :: .ref a_withs :: .int v_goalCount :: .ref a_pile :: .ref a_letValue :: .ref a_one :: .ref a_two :: [])), (a_text, .inl (gI G, 2000, .inl f_text))] H := hP
  have hD : va_D A [(h, .inr (12, .int v_p :: .int v_q :: .ref a_table :: .int v_rows :: .ref a_tape :: .int v_cells :: .ref a_budget :: .ref a_spent :: .ref a_text :: .int v_signs :: .ref a_kinds :: .ref a_values :: .int v_tokens :: .ref a_scriptKinds :: .ref a_scriptValues :: .int v_scriptTokens :: .int r1 :: .int r1 :: .int 30 :: .int 0 :: .int v_depth :: .int v_asked :: .int v_lets :: .int v_questions :: .int v_statements :: .ref a_isTold :: .ref a_letOf :: .ref a_code :: .int v_size :: .ref a_letEnd :: .ref a_letBegin :: .ref a_sort :: .ref a_column :: .ref a_low :: .ref a_high :: .ref a_by :: .ref a_top :: .ref a_begins :: .ref a_ends :: .int v_hasScript :: .int v_scriptLets :: .int v_scriptQuestions :: .ref a_scriptCode :: .ref a_scriptLetBegin :: .ref a_scriptLetEnd :: .ref a_aSort :: .ref a_aColumn :: .ref a_aLow :: .ref a_aHigh :: .ref a_aBy :: .ref a_aTop :: .ref a_aBegin :: .ref a_anEnd :: .ref a_told :: .int v_toldCount :: .ref a_out :: .int v_outs :: .ref a_goals :: .ref a_withs :: .int v_goalCount :: .ref a_pile :: .ref a_letValue :: .ref a_one :: .ref a_two :: [])), (a_text, .inl (gI G, 2000, .inl f_text))] := hD
  exact ly_vret hx hb hr hlocks hP hD hS d_Mo_look_68 rfl (by rw [s_Mo_look] <;> simp only [hr1] <;> rw [if_pos c1])
