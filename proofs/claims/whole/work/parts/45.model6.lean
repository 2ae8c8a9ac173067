theorem d_Mo_pass_0 : decode b_Mo_pass 0 = .ok (.aload_n 0, 1) := by decide +kernel
theorem d_Mo_pass_1 : decode b_Mo_pass 1 = .ok (.getfield 25, 3) := by decide +kernel
theorem d_Mo_pass_4 : decode b_Mo_pass 4 = .ok (.aload_n 0, 1) := by decide +kernel
theorem d_Mo_pass_5 : decode b_Mo_pass 5 = .ok (.getfield 220, 3) := by decide +kernel
theorem d_Mo_pass_8 : decode b_Mo_pass 8 = .ok (.aload_n 0, 1) := by decide +kernel
theorem d_Mo_pass_9 : decode b_Mo_pass 9 = .ok (.getfield 188, 3) := by decide +kernel
theorem d_Mo_pass_12 : decode b_Mo_pass 12 = .ok (.iastore, 1) := by decide +kernel
theorem d_Mo_pass_13 : decode b_Mo_pass 13 = .ok (.aload_n 0, 1) := by decide +kernel
theorem d_Mo_pass_14 : decode b_Mo_pass 14 = .ok (.getfield 28, 3) := by decide +kernel
theorem d_Mo_pass_17 : decode b_Mo_pass 17 = .ok (.aload_n 0, 1) := by decide +kernel
theorem d_Mo_pass_18 : decode b_Mo_pass 18 = .ok (.getfield 220, 3) := by decide +kernel
theorem d_Mo_pass_21 : decode b_Mo_pass 21 = .ok (.aload_n 0, 1) := by decide +kernel
theorem d_Mo_pass_22 : decode b_Mo_pass 22 = .ok (.getfield 170, 3) := by decide +kernel
theorem d_Mo_pass_25 : decode b_Mo_pass 25 = .ok (.iastore, 1) := by decide +kernel
theorem d_Mo_pass_26 : decode b_Mo_pass 26 = .ok (.aload_n 0, 1) := by decide +kernel
theorem d_Mo_pass_27 : decode b_Mo_pass 27 = .ok (.dup, 1) := by decide +kernel
theorem d_Mo_pass_28 : decode b_Mo_pass 28 = .ok (.getfield 220, 3) := by decide +kernel
theorem d_Mo_pass_31 : decode b_Mo_pass 31 = .ok (.iconst 1, 1) := by decide +kernel
theorem d_Mo_pass_32 : decode b_Mo_pass 32 = .ok (.iadd, 1) := by decide +kernel
theorem d_Mo_pass_33 : decode b_Mo_pass 33 = .ok (.putfield 220, 3) := by decide +kernel
theorem d_Mo_pass_36 : decode b_Mo_pass 36 = .ok (.aload_n 0, 1) := by decide +kernel
theorem d_Mo_pass_37 : decode b_Mo_pass 37 = .ok (.invokevirtual 223, 3) := by decide +kernel
theorem d_Mo_pass_40 : decode b_Mo_pass 40 = .ok (.iconst 1, 1) := by decide +kernel
theorem d_Mo_pass_41 : decode b_Mo_pass 41 = .ok (.ireturn, 1) := by decide +kernel
theorem k_237 : (.fieldLink R_Mo 25 "PrivateQueriesModel" "kinds" "[I" : Cond) ∈ wG := wGm 975 (by decide +kernel) (by decide +kernel)
theorem k_238 : (.fieldLink R_Mo 220 "PrivateQueriesModel" "tokens" "I" : Cond) ∈ wG := wGm 977 (by decide +kernel) (by decide +kernel)
theorem k_239 : (.fieldLink R_Mo 28 "PrivateQueriesModel" "values" "[I" : Cond) ∈ wG := wGm 976 (by decide +kernel) (by decide +kernel)
theorem k_240 : (.methodLink R_Mo 223 y_Mo_look : Cond) ∈ wG := wGm 1199 (by decide +kernel) (by decide +kernel)
theorem k_241 : (.instanceMethod y_Mo_look : Cond) ∈ wG := wGm 1201 (by decide +kernel) (by decide +kernel)
theorem k_242 : (.selects R_Mo y_Mo_look y_Mo_look : Cond) ∈ wG := wGm 35 (by decide +kernel) (by decide +kernel)
theorem k_243 : (.code y_Mo_look b_Mo_look 2 none : Cond) ∈ wG := wGm 1202 (by decide +kernel) (by decide +kernel)
theorem g_Mo_223 : GoodIn wG (wsV R_Mo 223 R_Mo y_Mo_look w_Mo_look) := wGa (fun w hw => by
  rcases List.mem_cons.mp hw with e | hw
  · exact e ▸ k_240
  rcases List.mem_cons.mp hw with e | hw
  · exact e ▸ k_241
  rcases List.mem_cons.mp hw with e | hw
  · exact e ▸ k_242
  rcases List.mem_cons.mp hw with e | hw
  · exact e ▸ k_185
  · exact absurd hw List.not_mem_nil) (wGc k_243)
def s_Mo_pass (f_text : Nat → Int32) (v_signs : Int32) (f_kinds : Nat → Int32) (f_values : Nat → Int32) (v_tokens : Int32) (v_at : Int32) (v_kind : Int32) (v_value : Int32) : Int32 × Int32 × Int32 × Int32 × Int32 × (Nat → Int32) × (Nat → Int32) :=
  let r1 := (s_Mo_look f_text v_signs v_at);
  ((v_tokens + 1), r1.1, r1.2.1, r1.2.2.1, r1.2.2.2, upd f_kinds v_tokens.toNatClampNeg v_kind, upd f_values v_tokens.toNatClampNeg v_value)
/-! what look leaves: the place moves on, a token has a sign, a name's and a column's letter are letters -/
def LK (sg a0 a pl kd vl : Int32) : Prop := LU sg a ∧ a0.toInt ≤ pl.toInt ∧ pl.toInt ≤ a.toInt ∧ (¬ kd = 30 → pl.toInt < a.toInt) ∧ (kd = 14 → up vl 25) ∧ (kd = 13 → up vl 5)
theorem LQ.lt {sg a : Int32} (h : LQ sg a) : (a + 1).toInt = a.toInt + 1 := by
  have h1 := h.1
  have h2 := h.2
  exact i32_succ (by omega)
theorem lk_0 {f : Nat → Int32} {sg : Int32} : ∀ (n : Nat) (a : Int32), LU sg a → LU sg (lp_Mo_look_0 f sg n a) ∧ a.toInt ≤ (lp_Mo_look_0 f sg n a).toInt := by
  intro n
  induction n with
  | zero => intro a h; exact ⟨h, Int.le_refl _⟩
  | succ n ih =>
    intro a h
    unfold lp_Mo_look_0
    split
    · exact ⟨h, Int.le_refl _⟩
    · rename_i h1
      split
      · have h2 := ih (a + 1) (h.q h1).s
        have h3 := (h.q h1).lt
        exact ⟨h2.1, by omega⟩
      · exact ⟨h, Int.le_refl _⟩
theorem lk_86 {f : Nat → Int32} {sg : Int32} : ∀ (n : Nat) (b a p w : Int32), LU sg a → LU sg (lp_Mo_look_86 f sg n b a p w) ∧ a.toInt ≤ (lp_Mo_look_86 f sg n b a p w).toInt := by
  intro n
  induction n with
  | zero => intro b a p w h; exact ⟨h, Int.le_refl _⟩
  | succ n ih =>
    intro b a p w h
    unfold lp_Mo_look_86
    dsimp only
    split
    · exact ⟨h, Int.le_refl _⟩
    · rename_i h1
      split
      · exact ⟨h, Int.le_refl _⟩
      · have h2 := ih b (a + 1) p w (h.q h1).s
        have h3 := (h.q h1).lt
        exact ⟨h2.1, by omega⟩
theorem lk_86s {f : Nat → Int32} {sg : Int32} (n : Nat) (b a p w : Int32) (h : LQ sg a) (hs : ¬ s_Mo_isSmall (f a.toNatClampNeg) = 0) : LU sg (lp_Mo_look_86 f sg (n + 1) b a p w) ∧ a.toInt < (lp_Mo_look_86 f sg (n + 1) b a p w).toInt := by
  unfold lp_Mo_look_86
  dsimp only
  rw [if_neg (fun g => by rw [Int32.le_iff_toInt_le] at g; have := h.2.1; omega), if_neg hs]
  have h2 := lk_86 (f := f) n b (a + 1) p w h.s
  have h3 := h.lt
  exact ⟨h2.1, by omega⟩
theorem lk_rn {f : Nat → Int32} {sg : Int32} : ∀ (n : Nat) (y : Int64) (a w : Int32), LU sg a → LU sg (lp_Mo_readNumber_8 f sg n y a w).1 ∧ a.toInt ≤ (lp_Mo_readNumber_8 f sg n y a w).1.toInt ∧ ((lp_Mo_readNumber_8 f sg n y a w).2.1 = 15 ∨ (lp_Mo_readNumber_8 f sg n y a w).2.1 = 31) := by
  intro n
  induction n with
  | zero => intro y a w h; exact ⟨h, Int.le_refl _, Or.inl rfl⟩
  | succ n ih =>
    intro y a w h
    unfold lp_Mo_readNumber_8
    dsimp only
    split
    · split
      · exact ⟨h, Int.le_refl _, Or.inl rfl⟩
      · exact ⟨h, Int.le_refl _, Or.inr rfl⟩
    · rename_i h1
      have h3 := (h.q h1).lt
      split
      · split
        · exact ⟨h, Int.le_refl _, Or.inl rfl⟩
        · exact ⟨h, Int.le_refl _, Or.inr rfl⟩
      · split
        · have h2 := ih (((10 * y) + ((f a.toNatClampNeg).toInt64)) - 48) (a + 1) w (h.q h1).s
          exact ⟨h2.1, by omega, h2.2.2⟩
        · have h2 := ih 2147483648 (a + 1) w (h.q h1).s
          exact ⟨h2.1, by omega, h2.2.2⟩
theorem lk_rns {f : Nat → Int32} {sg : Int32} (n : Nat) (y : Int64) (a w : Int32) (h : LQ sg a) (hd : ¬ s_Mo_isDigit (f a.toNatClampNeg) = 0) : a.toInt < (lp_Mo_readNumber_8 f sg (n + 1) y a w).1.toInt := by
  unfold lp_Mo_readNumber_8
  dsimp only
  rw [if_neg (fun g => by rw [Int32.le_iff_toInt_le] at g; have := h.2.1; omega), if_neg hd]
  have h3 := h.lt
  split
  · have h2 := lk_rn (f := f) n (((10 * y) + ((f a.toNatClampNeg).toInt64)) - 48) (a + 1) w h.s
    omega
  · have h2 := lk_rn (f := f) n 2147483648 (a + 1) w h.s
    omega
theorem lk_pk {f : Nat → Int32} {sg x k : Int32} (h : s_Mo_peek f sg x = k) (hk : ¬ k = 0) : ¬ sg ≤ x := by
  intro g
  unfold s_Mo_peek at h
  rw [if_pos g] at h
  exact hk h.symm
theorem lk_a2 (a : Int32) : a + 1 + 1 = a + 2 := by rw [Int32.add_assoc]; rfl
theorem lk_cs {f : Nat → Int32} {sg a : Int32} (hq : LQ sg a) : LU sg (s_Mo_compareSign f sg a).1 ∧ a.toInt < (s_Mo_compareSign f sg a).1.toInt ∧ ¬ (s_Mo_compareSign f sg a).2 = 14 ∧ ¬ (s_Mo_compareSign f sg a).2 = 13 := by
  have two : ∀ k : Int32, s_Mo_peek f sg (a + 1) = k → ¬ k = 0 → LU sg (a + 2) ∧ a.toInt < (a + 2).toInt := by
    intro k h hk
    have h2 := hq.s.q (lk_pk h hk)
    have h3 := h2.lt
    have h4 := hq.lt
    rw [← lk_a2]
    exact ⟨h2.s, by omega⟩
  have one : LU sg (a + 1) ∧ a.toInt < (a + 1).toInt := ⟨hq.s, by have := hq.lt; omega⟩
  unfold s_Mo_compareSign
  dsimp only
  split
  · split
    · rename_i h
      exact ⟨(two _ h (by decide)).1, (two _ h (by decide)).2, by dsimp only; decide, by dsimp only; decide⟩
    · split
      · rename_i h
        exact ⟨(two _ h (by decide)).1, (two _ h (by decide)).2, by dsimp only; decide, by dsimp only; decide⟩
      · exact ⟨one.1, one.2, by dsimp only; decide, by dsimp only; decide⟩
  · split
    · rename_i h
      exact ⟨(two _ h (by decide)).1, (two _ h (by decide)).2, by dsimp only; decide, by dsimp only; decide⟩
    · exact ⟨one.1, one.2, by dsimp only; decide, by dsimp only; decide⟩
theorem lk_sk (b : Int32) : ¬ s_Mo_signKind b = 14 ∧ ¬ s_Mo_signKind b = 13 := by
  unfold s_Mo_signKind
  repeat' split
  all_goals exact ⟨by decide, by decide⟩
theorem lk_sm {b : Int32} (h : ¬ s_Mo_isSmall b = 0) : 97 ≤ b.toInt ∧ b.toInt ≤ 122 := by
  unfold s_Mo_isSmall at h
  split at h
  · exact absurd rfl h
  · rename_i h1
    split at h
    · exact absurd rfl h
    · rename_i h2
      rw [Int32.lt_iff_toInt_lt, show (97 : Int32).toInt = 97 by decide] at h1
      rw [Int32.lt_iff_toInt_lt, show (122 : Int32).toInt = 122 by decide] at h2
      omega
def ncl (t : Int32 × Int32) : Prop := ¬ t.1 = 14 ∧ ¬ t.1 = 13
theorem lk_cl {f : Nat → Int32} {v x z : Int32} (hs : ¬ s_Mo_isSmall (f x.toNatClampNeg) = 0) : ((s_Mo_classify f v x z).1 = 14 → up (s_Mo_classify f v x z).2 25) ∧ ((s_Mo_classify f v x z).1 = 13 → up (s_Mo_classify f v x z).2 5) := by
  have h1 := lk_sm hs
  have h2 : (f x.toNatClampNeg - 97).toInt = (f x.toNatClampNeg).toInt - 97 := by
    rw [Int32.toInt_sub, show (97 : Int32).toInt = 97 by decide, Int.bmod_eq_of_le (by omega) (by omega)]
  have key : ∀ (r1 r2 r3 r4 r5 r6 r7 r8 r9 r10 r11 r12 r13 : Int32), ncl (if r1 = 0 then (31, v) else if r1 = r2 then (1, v) else if r1 = r3 then (2, v) else if r1 = r4 then (3, v) else if r1 = r5 then (4, v) else if r1 = r6 then (5, v) else if r1 = r7 then (6, v) else if r1 = r8 then (7, v) else if r1 = r9 then (8, v) else if r1 = r10 then (9, v) else if r1 = r11 then (10, v) else if r1 = r12 then (11, v) else if r1 = r13 then (12, v) else (31, v)) := by
    intro r1 r2 r3 r4 r5 r6 r7 r8 r9 r10 r11 r12 r13
    by_cases c0 : r1 = 0
    · rw [if_pos c0]
      exact ⟨(by decide : ¬ (31 : Int32) = 14), (by decide : ¬ (31 : Int32) = 13)⟩
    rw [if_neg c0]
    by_cases c1 : r1 = r2
    · rw [if_pos c1]
      exact ⟨(by decide : ¬ (1 : Int32) = 14), (by decide : ¬ (1 : Int32) = 13)⟩
    rw [if_neg c1]
    by_cases c2 : r1 = r3
    · rw [if_pos c2]
      exact ⟨(by decide : ¬ (2 : Int32) = 14), (by decide : ¬ (2 : Int32) = 13)⟩
    rw [if_neg c2]
    by_cases c3 : r1 = r4
    · rw [if_pos c3]
      exact ⟨(by decide : ¬ (3 : Int32) = 14), (by decide : ¬ (3 : Int32) = 13)⟩
    rw [if_neg c3]
    by_cases c4 : r1 = r5
    · rw [if_pos c4]
      exact ⟨(by decide : ¬ (4 : Int32) = 14), (by decide : ¬ (4 : Int32) = 13)⟩
    rw [if_neg c4]
    by_cases c5 : r1 = r6
    · rw [if_pos c5]
      exact ⟨(by decide : ¬ (5 : Int32) = 14), (by decide : ¬ (5 : Int32) = 13)⟩
    rw [if_neg c5]
    by_cases c6 : r1 = r7
    · rw [if_pos c6]
      exact ⟨(by decide : ¬ (6 : Int32) = 14), (by decide : ¬ (6 : Int32) = 13)⟩
    rw [if_neg c6]
    by_cases c7 : r1 = r8
    · rw [if_pos c7]
      exact ⟨(by decide : ¬ (7 : Int32) = 14), (by decide : ¬ (7 : Int32) = 13)⟩
    rw [if_neg c7]
    by_cases c8 : r1 = r9
    · rw [if_pos c8]
      exact ⟨(by decide : ¬ (8 : Int32) = 14), (by decide : ¬ (8 : Int32) = 13)⟩
    rw [if_neg c8]
    by_cases c9 : r1 = r10
    · rw [if_pos c9]
      exact ⟨(by decide : ¬ (9 : Int32) = 14), (by decide : ¬ (9 : Int32) = 13)⟩
    rw [if_neg c9]
    by_cases c10 : r1 = r11
    · rw [if_pos c10]
      exact ⟨(by decide : ¬ (10 : Int32) = 14), (by decide : ¬ (10 : Int32) = 13)⟩
    rw [if_neg c10]
    by_cases c11 : r1 = r12
    · rw [if_pos c11]
      exact ⟨(by decide : ¬ (11 : Int32) = 14), (by decide : ¬ (11 : Int32) = 13)⟩
    rw [if_neg c11]
    by_cases c12 : r1 = r13
    · rw [if_pos c12]
      exact ⟨(by decide : ¬ (12 : Int32) = 14), (by decide : ¬ (12 : Int32) = 13)⟩
    rw [if_neg c12]
    exact ⟨(by decide : ¬ (31 : Int32) = 14), (by decide : ¬ (31 : Int32) = 13)⟩
  by_cases hc : z - x = 1
  · unfold s_Mo_classify
    rw [if_pos hc]
    split
    · exact ⟨fun _ => ⟨by rw [h2]; omega, by rw [h2]; omega⟩, fun h => absurd h (by dsimp only; decide)⟩
    · rename_i h3
      rw [Int32.le_iff_toInt_le, h2, show (6 : Int32).toInt = 6 by decide] at h3
      exact ⟨fun h => absurd h (by dsimp only; decide), fun _ => ⟨by rw [h2]; omega, by rw [h2]; omega⟩⟩
  · unfold s_Mo_classify
    rw [if_neg hc]
    have h3 : ncl _ := key (lp_Mo_wordAt_5 f x z (((z.toInt - x.toInt).toNat) + 1) (0 : Int32) x) (s_Mo_wordOf 108 101 116 0 0) (s_Mo_wordOf 99 111 117 110 116) (s_Mo_wordOf 115 117 109 0 0) (s_Mo_wordOf 98 105 110 115 0) (s_Mo_wordOf 119 104 101 114 101) (s_Mo_wordOf 105 110 0 0 0) (s_Mo_wordOf 116 111 0 0 0) (s_Mo_wordOf 98 121 0 0 0) (s_Mo_wordOf 102 114 111 109 0) (s_Mo_wordOf 110 111 116 0 0) (s_Mo_wordOf 97 110 100 0 0) (s_Mo_wordOf 111 114 0 0 0)
    exact ⟨fun h => absurd h h3.1, fun h => absurd h h3.2⟩
theorem lk {f : Nat → Int32} {sg a0 : Int32} (hu : LU sg a0) : LK sg a0 (s_Mo_look f sg a0).1 (s_Mo_look f sg a0).2.1 (s_Mo_look f sg a0).2.2.1 (s_Mo_look f sg a0).2.2.2 := by
  unfold s_Mo_look
  obtain ⟨h1, h2⟩ := lk_0 (f := f) (((sg.toInt - a0.toInt).toNat) + 1) a0 hu
  generalize lp_Mo_look_0 f sg (((sg.toInt - a0.toInt).toNat) + 1) a0 = r1 at h1 h2 ⊢
  dsimp only
  split
  · show LK sg a0 r1 r1 30 0
    exact ⟨h1, h2, Int.le_refl _, fun h => absurd rfl h, fun h => absurd h (by decide), fun h => absurd h (by decide)⟩
  · rename_i hne
    have hq := h1.n hne
    split
    · split
      · split
        · have h5 := lk_cs (f := f) hq
          show LK sg a0 (s_Mo_compareSign f sg r1).1 r1 (s_Mo_compareSign f sg r1).2 0
          exact ⟨h5.1, h2, Int.le_of_lt h5.2.1, fun _ => h5.2.1, fun h => absurd h h5.2.2.1, fun h => absurd h h5.2.2.2⟩
        · split
          · have h5 := lk_cs (f := f) hq
            show LK sg a0 (s_Mo_compareSign f sg r1).1 r1 (s_Mo_compareSign f sg r1).2 0
            exact ⟨h5.1, h2, Int.le_of_lt h5.2.1, fun _ => h5.2.1, fun h => absurd h h5.2.2.1, fun h => absurd h h5.2.2.2⟩
          · have h5 := lk_sk (f r1.toNatClampNeg)
            have h6 := hq.lt
            show LK sg a0 (r1 + 1) r1 (s_Mo_signKind (f r1.toNatClampNeg)) 0
            exact ⟨hq.s, h2, by show r1.toInt ≤ (r1 + 1).toInt; omega, fun _ => by show r1.toInt < (r1 + 1).toInt; omega, fun h => absurd h h5.1, fun h => absurd h h5.2⟩
      · rename_i hd
        have h5 := lk_rn (f := f) (((sg.toInt - r1.toInt).toNat) + 1) 0 r1 15 h1
        have h6 := lk_rns (f := f) ((sg.toInt - r1.toInt).toNat) 0 r1 15 hq hd
        refine ⟨h5.1, h2, h5.2.1, fun _ => h6, fun h => ?_, fun h => ?_⟩
        · rcases h5.2.2 with g | g <;> exact absurd (g.symm.trans h) (by decide)
        · rcases h5.2.2 with g | g <;> exact absurd (g.symm.trans h) (by decide)
    · rename_i hs
      have h5 := lk_86s (f := f) ((sg.toInt - r1.toInt).toNat) (f r1.toNatClampNeg) r1 r1 0 hq hs
      have h6 := lk_cl (f := f) (v := 0) (x := r1) (z := lp_Mo_look_86 f sg ((sg.toInt - r1.toInt).toNat + 1) (f r1.toNatClampNeg) r1 r1 0) hs
      exact ⟨h5.1, h2, Int.le_of_lt h5.2, fun _ => h5.2, h6.1, h6.2⟩
/-- the reader's state: tokens laid, places in the text, letters of names and columns -/
def PI (sg at_ tk kd vl : Int32) : Prop := 0 ≤ tk.toInt ∧ tk.toInt ≤ at_.toInt ∧ LU sg at_ ∧ (¬ kd = 30 → tk.toInt < at_.toInt) ∧ (kd = 14 → up vl 25) ∧ (kd = 13 → up vl 5)
theorem PI.tk {sg a tk kd vl : Int32} (h : PI sg a tk kd vl) (hk : ¬ kd = 30) : vp_in tk 2000 := ly_mk h.1 (by have h1 := h.2.2.2.1 hk; have h2 := h.2.2.1.2; omega)
theorem PI.go {f : Nat → Int32} {sg a tk kd vl : Int32} (h : PI sg a tk kd vl) (hk : ¬ kd = 30) : PI sg (s_Mo_look f sg a).1 (tk + 1) (s_Mo_look f sg a).2.2.1 (s_Mo_look f sg a).2.2.2 := by
  obtain ⟨h1, h2, h3, h4, h5, h6⟩ := h
  have h7 := h4 hk
  have h8 : (tk + 1).toInt = tk.toInt + 1 := i32_succ (by have := h3.2; omega)
  obtain ⟨g1, g2, g3, g4, g5, g6⟩ := lk (f := f) h3
  exact ⟨by omega, by omega, g1, fun h => by have := g4 h; omega, g5, g6⟩
theorem pi_pass {f : Nat → Int32} {sg : Int32} {ks vs : Nat → Int32} {tk a kd vl : Int32} (h : PI sg a tk kd vl) (hk : ¬ kd = 30) : PI sg (s_Mo_pass f sg ks vs tk a kd vl).2.1 (s_Mo_pass f sg ks vs tk a kd vl).1 (s_Mo_pass f sg ks vs tk a kd vl).2.2.2.1 (s_Mo_pass f sg ks vs tk a kd vl).2.2.2.2.1 := PI.go h hk
set_option maxHeartbeats 4000000 in
set_option maxRecDepth 100000 in
theorem c_Mo_pass (l : Launch) (G : GG) (h : Nat) (a_table : Nat) (a_tape : Nat) (a_budget : Nat) (a_spent : Nat) (a_text : Nat) (a_kinds : Nat) (a_values : Nat) (a_scriptKinds : Nat) (a_scriptValues : Nat) (a_isTold : Nat) (a_letOf : Nat) (a_code : Nat) (a_letEnd : Nat) (a_letBegin : Nat) (a_sort : Nat) (a_column : Nat) (a_low : Nat) (a_high : Nat) (a_by : Nat) (a_top : Nat) (a_begins : Nat) (a_ends : Nat) (a_scriptCode : Nat) (a_scriptLetBegin : Nat) (a_scriptLetEnd : Nat) (a_aSort : Nat) (a_aColumn : Nat) (a_aLow : Nat) (a_aHigh : Nat) (a_aBy : Nat) (a_aTop : Nat) (a_aBegin : Nat) (a_anEnd : Nat) (a_told : Nat) (a_out : Nat) (a_goals : Nat) (a_withs : Nat) (a_pile : Nat) (a_letValue : Nat) (a_one : Nat) (a_two : Nat) (v_p : Int32) (v_q : Int32) (v_rows : Int32) (v_cells : Int32) (f_text : Nat → Int32) (v_signs : Int32) (f_kinds : Nat → Int32) (f_values : Nat → Int32) (v_tokens : Int32) (v_scriptTokens : Int32) (v_at : Int32) (v_place : Int32) (v_kind : Int32) (v_value : Int32) (v_depth : Int32) (v_asked : Int32) (v_lets : Int32) (v_questions : Int32) (v_statements : Int32) (v_size : Int32) (v_hasScript : Int32) (v_scriptLets : Int32) (v_scriptQuestions : Int32) (v_toldCount : Int32) (v_outs : Int32) (v_goalCount : Int32) (hp : PI v_signs v_at v_tokens v_kind v_value) (hk : ¬ v_kind = 30) : Det l G y_Mo_pass w_Mo_pass (rmD 3) 0 0 [.ref h] [(h, .inr (12, .int v_p :: .int v_q :: .ref a_table :: .int v_rows :: .ref a_tape :: .int v_cells :: .ref a_budget :: .ref a_spent :: .ref a_text :: .int v_signs :: .ref a_kinds :: .ref a_values :: .int v_tokens :: .ref a_scriptKinds :: .ref a_scriptValues :: .int v_scriptTokens :: .int v_at :: .int v_place :: .int v_kind :: .int v_value :: .int v_depth :: .int v_asked :: .int v_lets :: .int v_questions :: .int v_statements :: .ref a_isTold :: .ref a_letOf :: .ref a_code :: .int v_size :: .ref a_letEnd :: .ref a_letBegin :: .ref a_sort :: .ref a_column :: .ref a_low :: .ref a_high :: .ref a_by :: .ref a_top :: .ref a_begins :: .ref a_ends :: .int v_hasScript :: .int v_scriptLets :: .int v_scriptQuestions :: .ref a_scriptCode :: .ref a_scriptLetBegin :: .ref a_scriptLetEnd :: .ref a_aSort :: .ref a_aColumn :: .ref a_aLow :: .ref a_aHigh :: .ref a_aBy :: .ref a_aTop :: .ref a_aBegin :: .ref a_anEnd :: .ref a_told :: .int v_toldCount :: .ref a_out :: .int v_outs :: .ref a_goals :: .ref a_withs :: .int v_goalCount :: .ref a_pile :: .ref a_letValue :: .ref a_one :: .ref a_two :: [])), (a_text, .inl (gI G, 2000, .inl f_text)), (a_kinds, .inl (gI G, 2000, .inl f_kinds)), (a_values, .inl (gI G, 2000, .inl f_values))] (some (.int 1)) [(h, .inr (12, .int v_p :: .int v_q :: .ref a_table :: .int v_rows :: .ref a_tape :: .int v_cells :: .ref a_budget :: .ref a_spent :: .ref a_text :: .int v_signs :: .ref a_kinds :: .ref a_values :: .int (s_Mo_pass f_text v_signs f_kinds f_values v_tokens v_at v_kind v_value).1 :: .ref a_scriptKinds :: .ref a_scriptValues :: .int v_scriptTokens :: .int (s_Mo_pass f_text v_signs f_kinds f_values v_tokens v_at v_kind v_value).2.1 :: .int (s_Mo_pass f_text v_signs f_kinds f_values v_tokens v_at v_kind v_value).2.2.1 :: .int (s_Mo_pass f_text v_signs f_kinds f_values v_tokens v_at v_kind v_value).2.2.2.1 :: .int (s_Mo_pass f_text v_signs f_kinds f_values v_tokens v_at v_kind v_value).2.2.2.2.1 :: .int v_depth :: .int v_asked :: .int v_lets :: .int v_questions :: .int v_statements :: .ref a_isTold :: .ref a_letOf :: .ref a_code :: .int v_size :: .ref a_letEnd :: .ref a_letBegin :: .ref a_sort :: .ref a_column :: .ref a_low :: .ref a_high :: .ref a_by :: .ref a_top :: .ref a_begins :: .ref a_ends :: .int v_hasScript :: .int v_scriptLets :: .int v_scriptQuestions :: .ref a_scriptCode :: .ref a_scriptLetBegin :: .ref a_scriptLetEnd :: .ref a_aSort :: .ref a_aColumn :: .ref a_aLow :: .ref a_aHigh :: .ref a_aBy :: .ref a_aTop :: .ref a_aBegin :: .ref a_anEnd :: .ref a_told :: .int v_toldCount :: .ref a_out :: .int v_outs :: .ref a_goals :: .ref a_withs :: .int v_goalCount :: .ref a_pile :: .ref a_letValue :: .ref a_one :: .ref a_two :: [])), (a_text, .inl (gI G, 2000, .inl f_text)), (a_kinds, .inl (gI G, 2000, .inl (s_Mo_pass f_text v_signs f_kinds f_values v_tokens v_at v_kind v_value).2.2.2.2.2.1)), (a_values, .inl (gI G, 2000, .inl (s_Mo_pass f_text v_signs f_kinds f_values v_tokens v_at v_kind v_value).2.2.2.2.2.2))] := by
  refine Det.of (cc := b_Mo_pass) (maxL := 1) (ret := (some .boolean)) (by decide) rfl (Nat.le_of_ble_eq_true rfl) ?_
  intro p e s m args below meth c A ls hx hb hr hml hown hts hlocks hin hA hK hZ hP hD hS hl
  have hts : ∀ w ∈ wG, w.before args s = true := fun w h => hts w (List.mem_cons_of_mem _ h)
  have hown : s.vm.findClass R_Mo = some m.cls := hown
  have hl : lv_has ls 1 [(0, .ref h)] := hl
  refine lv_aload_n hx hb d_Mo_pass_0 rfl (lv_at hl 0 rfl) ?_
  refine va_get (D := G.1) (ci := 12) (C := R_Mo) (T := F_Mo) (N := 64) (v := .ref a_kinds) hx hb hts i_Mo hown hK hP 0 rfl rfl 10 (by decide) (hts (.fieldLink R_Mo 25 "PrivateQueriesModel" "kinds" "[I") k_237) (fun _ h9 => h9) rfl d_Mo_pass_1 ?_
  refine lv_aload_n hx hb d_Mo_pass_4 rfl (lv_at hl 0 rfl) ?_
  refine va_get (D := G.1) (ci := 12) (C := R_Mo) (T := F_Mo) (N := 64) (v := .int v_tokens) hx hb hts i_Mo hown hK hP 0 rfl rfl 12 (by decide) (hts (.fieldLink R_Mo 220 "PrivateQueriesModel" "tokens" "I") k_238) (fun _ h9 => h9) rfl d_Mo_pass_5 ?_
  refine lv_aload_n hx hb d_Mo_pass_8 rfl (lv_at hl 0 rfl) ?_
  refine va_get (D := G.1) (ci := 12) (C := R_Mo) (T := F_Mo) (N := 64) (v := .int v_kind) hx hb hts i_Mo hown hK hP 0 rfl rfl 18 (by decide) (hts (.fieldLink R_Mo 188 "PrivateQueriesModel" "kind" "I") k_181) (fun _ h9 => h9) rfl d_Mo_pass_9 ?_
  refine va_iast hx hb hK hP hD hS 2 0 rfl rfl (hp.tk hk) d_Mo_pass_12 (fun H locs hP hD hS => ?_)
  have hP : va_P G.1 classes [(h, .inr (12, .int v_p :: .int v_q :: .ref a_table :: .int v_rows :: .ref a_tape :: .int v_cells :: .ref a_budget :: .ref a_spent :: .ref a_text :: .int v_signs :: .ref a_kinds :: .ref a_values :: .int v_tokens :: .ref a_scriptKinds :: .ref a_scriptValues :: .int v_scriptTokens :: .int v_at :: .int v_place :: .int v_kind :: .int v_value :: .int v_depth :: .int v_asked :: .int v_lets :: .int v_questions :: .int v_statements :: .ref a_isTold :: .ref a_letOf :: .ref a_code :: .int v_size :: .ref a_letEnd :: .ref a_letBegin :: .ref a_sort :: .ref a_column :: .ref a_low :: .ref a_high :: .ref a_by :: .ref a_top :: .ref a_begins :: .ref a_ends :: .int v_hasScript :: .int v_scriptLets :: .int v_scriptQuestions :: .ref a_scriptCode :: .ref a_scriptLetBegin :: .ref a_scriptLetEnd :: .ref a_aSort :: .ref a_aColumn :: .ref a_aLow :: .ref a_aHigh :: .ref a_aBy :: .ref a_aTop :: .ref a_aBegin :: .ref a_anEnd :: .ref a_told :: .int v_toldCount :: .ref a_out :: .int v_outs :: .ref a_goals :: .ref a_withs :: .int v_goalCount :: .ref a_pile :: .ref a_letValue :: .ref a_one :: .ref a_two :: [])), (a_text, .inl (gI G, 2000, .inl f_text)), (a_kinds, .inl (gI G, 2000, .inl (upd f_kinds v_tokens.toNatClampNeg v_kind))), (a_values, .inl (gI G, 2000, .inl f_values))] H := hP
  have hD : va_D A [(h, .inr (12, .int v_p :: .int v_q :: .ref a_table :: .int v_rows :: .ref a_tape :: .int v_cells :: .ref a_budget :: .ref a_spent :: .ref a_text :: .int v_signs :: .ref a_kinds :: .ref a_values :: .int v_tokens :: .ref a_scriptKinds :: .ref a_scriptValues :: .int v_scriptTokens :: .int v_at :: .int v_place :: .int v_kind :: .int v_value :: .int v_depth :: .int v_asked :: .int v_lets :: .int v_questions :: .int v_statements :: .ref a_isTold :: .ref a_letOf :: .ref a_code :: .int v_size :: .ref a_letEnd :: .ref a_letBegin :: .ref a_sort :: .ref a_column :: .ref a_low :: .ref a_high :: .ref a_by :: .ref a_top :: .ref a_begins :: .ref a_ends :: .int v_hasScript :: .int v_scriptLets :: .int v_scriptQuestions :: .ref a_scriptCode :: .ref a_scriptLetBegin :: .ref a_scriptLetEnd :: .ref a_aSort :: .ref a_aColumn :: .ref a_aLow :: .ref a_aHigh :: .ref a_aBy :: .ref a_aTop :: .ref a_aBegin :: .ref a_anEnd :: .ref a_told :: .int v_toldCount :: .ref a_out :: .int v_outs :: .ref a_goals :: .ref a_withs :: .int v_goalCount :: .ref a_pile :: .ref a_letValue :: .ref a_one :: .ref a_two :: [])), (a_text, .inl (gI G, 2000, .inl f_text)), (a_kinds, .inl (gI G, 2000, .inl (upd f_kinds v_tokens.toNatClampNeg v_kind))), (a_values, .inl (gI G, 2000, .inl f_values))] := hD
  refine lv_aload_n hx hb d_Mo_pass_13 rfl (lv_at hl 0 rfl) ?_
  refine va_get (D := G.1) (ci := 12) (C := R_Mo) (T := F_Mo) (N := 64) (v := .ref a_values) hx hb hts i_Mo hown hK hP 0 rfl rfl 11 (by decide) (hts (.fieldLink R_Mo 28 "PrivateQueriesModel" "values" "[I") k_239) (fun _ h9 => h9) rfl d_Mo_pass_14 ?_
  refine lv_aload_n hx hb d_Mo_pass_17 rfl (lv_at hl 0 rfl) ?_
  refine va_get (D := G.1) (ci := 12) (C := R_Mo) (T := F_Mo) (N := 64) (v := .int v_tokens) hx hb hts i_Mo hown hK hP 0 rfl rfl 12 (by decide) (hts (.fieldLink R_Mo 220 "PrivateQueriesModel" "tokens" "I") k_238) (fun _ h9 => h9) rfl d_Mo_pass_18 ?_
  refine lv_aload_n hx hb d_Mo_pass_21 rfl (lv_at hl 0 rfl) ?_
  refine va_get (D := G.1) (ci := 12) (C := R_Mo) (T := F_Mo) (N := 64) (v := .int v_value) hx hb hts i_Mo hown hK hP 0 rfl rfl 19 (by decide) (hts (.fieldLink R_Mo 170 "PrivateQueriesModel" "value" "I") k_204) (fun _ h9 => h9) rfl d_Mo_pass_22 ?_
  refine va_iast hx hb hK hP hD hS 3 0 rfl rfl (hp.tk hk) d_Mo_pass_25 (fun H locs hP hD hS => ?_)
  have hP : va_P G.1 classes [(h, .inr (12, .int v_p :: .int v_q :: .ref a_table :: .int v_rows :: .ref a_tape :: .int v_cells :: .ref a_budget :: .ref a_spent :: .ref a_text :: .int v_signs :: .ref a_kinds :: .ref a_values :: .int v_tokens :: .ref a_scriptKinds :: .ref a_scriptValues :: .int v_scriptTokens :: .int v_at :: .int v_place :: .int v_kind :: .int v_value :: .int v_depth :: .int v_asked :: .int v_lets :: .int v_questions :: .int v_statements :: .ref a_isTold :: .ref a_letOf :: .ref a_code :: .int v_size :: .ref a_letEnd :: .ref a_letBegin :: .ref a_sort :: .ref a_column :: .ref a_low :: .ref a_high :: .ref a_by :: .ref a_top :: .ref a_begins :: .ref a_ends :: .int v_hasScript :: .int v_scriptLets :: .int v_scriptQuestions :: .ref a_scriptCode :: .ref a_scriptLetBegin :: .ref a_scriptLetEnd :: .ref a_aSort :: .ref a_aColumn :: .ref a_aLow :: .ref a_aHigh :: .ref a_aBy :: .ref a_aTop :: .ref a_aBegin :: .ref a_anEnd :: .ref a_told :: .int v_toldCount :: .ref a_out :: .int v_outs :: .ref a_goals :: .ref a_withs :: .int v_goalCount :: .ref a_pile :: .ref a_letValue :: .ref a_one :: .ref a_two :: [])), (a_text, .inl (gI G, 2000, .inl f_text)), (a_kinds, .inl (gI G, 2000, .inl (upd f_kinds v_tokens.toNatClampNeg v_kind))), (a_values, .inl (gI G, 2000, .inl (upd f_values v_tokens.toNatClampNeg v_value)))] H := hP
  have hD : va_D A [(h, .inr (12, .int v_p :: .int v_q :: .ref a_table :: .int v_rows :: .ref a_tape :: .int v_cells :: .ref a_budget :: .ref a_spent :: .ref a_text :: .int v_signs :: .ref a_kinds :: .ref a_values :: .int v_tokens :: .ref a_scriptKinds :: .ref a_scriptValues :: .int v_scriptTokens :: .int v_at :: .int v_place :: .int v_kind :: .int v_value :: .int v_depth :: .int v_asked :: .int v_lets :: .int v_questions :: .int v_statements :: .ref a_isTold :: .ref a_letOf :: .ref a_code :: .int v_size :: .ref a_letEnd :: .ref a_letBegin :: .ref a_sort :: .ref a_column :: .ref a_low :: .ref a_high :: .ref a_by :: .ref a_top :: .ref a_begins :: .ref a_ends :: .int v_hasScript :: .int v_scriptLets :: .int v_scriptQuestions :: .ref a_scriptCode :: .ref a_scriptLetBegin :: .ref a_scriptLetEnd :: .ref a_aSort :: .ref a_aColumn :: .ref a_aLow :: .ref a_aHigh :: .ref a_aBy :: .ref a_aTop :: .ref a_aBegin :: .ref a_anEnd :: .ref a_told :: .int v_toldCount :: .ref a_out :: .int v_outs :: .ref a_goals :: .ref a_withs :: .int v_goalCount :: .ref a_pile :: .ref a_letValue :: .ref a_one :: .ref a_two :: [])), (a_text, .inl (gI G, 2000, .inl f_text)), (a_kinds, .inl (gI G, 2000, .inl (upd f_kinds v_tokens.toNatClampNeg v_kind))), (a_values, .inl (gI G, 2000, .inl (upd f_values v_tokens.toNatClampNeg v_value)))] := hD
  refine lv_aload_n hx hb d_Mo_pass_26 rfl (lv_at hl 0 rfl) ?_
  refine lv_dup hx hb d_Mo_pass_27 rfl ?_
  refine va_get (D := G.1) (ci := 12) (C := R_Mo) (T := F_Mo) (N := 64) (v := .int v_tokens) hx hb hts i_Mo hown hK hP 0 rfl rfl 12 (by decide) (hts (.fieldLink R_Mo 220 "PrivateQueriesModel" "tokens" "I") k_238) (fun _ h9 => h9) rfl d_Mo_pass_28 ?_
  refine lv_iconst (v := 1) hx hb d_Mo_pass_31 (by decide) ?_
  refine lv_iadd hx hb d_Mo_pass_32 ?_
  refine va_put (D := G.1) (ci := 12) (v := .int (v_tokens + 1)) (ty := .int) (C := R_Mo) (T := F_Mo) (N := 64) hx hb hts i_Mo t_Mo t_Mo_ok n_Mo hown hK hP hD hS 0 rfl rfl 12 (by decide) (hts (.fieldLink R_Mo 220 "PrivateQueriesModel" "tokens" "I") k_238) (fun _ h9 => h9) rfl (by decide +kernel) rfl rfl (Nat.le_of_ble_eq_true rfl) d_Mo_pass_33 (fun H locs hP hD hS => ?_)
  have hP : va_P G.1 classes [(h, .inr (12, .int v_p :: .int v_q :: .ref a_table :: .int v_rows :: .ref a_tape :: .int v_cells :: .ref a_budget :: .ref a_spent :: .ref a_text :: .int v_signs :: .ref a_kinds :: .ref a_values :: .int (v_tokens + 1) :: .ref a_scriptKinds :: .ref a_scriptValues :: .int v_scriptTokens :: .int v_at :: .int v_place :: .int v_kind :: .int v_value :: .int v_depth :: .int v_asked :: .int v_lets :: .int v_questions :: .int v_statements :: .ref a_isTold :: .ref a_letOf :: .ref a_code :: .int v_size :: .ref a_letEnd :: .ref a_letBegin :: .ref a_sort :: .ref a_column :: .ref a_low :: .ref a_high :: .ref a_by :: .ref a_top :: .ref a_begins :: .ref a_ends :: .int v_hasScript :: .int v_scriptLets :: .int v_scriptQuestions :: .ref a_scriptCode :: .ref a_scriptLetBegin :: .ref a_scriptLetEnd :: .ref a_aSort :: .ref a_aColumn :: .ref a_aLow :: .ref a_aHigh :: .ref a_aBy :: .ref a_aTop :: .ref a_aBegin :: .ref a_anEnd :: .ref a_told :: .int v_toldCount :: .ref a_out :: .int v_outs :: .ref a_goals :: .ref a_withs :: .int v_goalCount :: .ref a_pile :: .ref a_letValue :: .ref a_one :: .ref a_two :: [])), (a_text, .inl (gI G, 2000, .inl f_text)), (a_kinds, .inl (gI G, 2000, .inl (upd f_kinds v_tokens.toNatClampNeg v_kind))), (a_values, .inl (gI G, 2000, .inl (upd f_values v_tokens.toNatClampNeg v_value)))] H := hP
  have hD : va_D A [(h, .inr (12, .int v_p :: .int v_q :: .ref a_table :: .int v_rows :: .ref a_tape :: .int v_cells :: .ref a_budget :: .ref a_spent :: .ref a_text :: .int v_signs :: .ref a_kinds :: .ref a_values :: .int (v_tokens + 1) :: .ref a_scriptKinds :: .ref a_scriptValues :: .int v_scriptTokens :: .int v_at :: .int v_place :: .int v_kind :: .int v_value :: .int v_depth :: .int v_asked :: .int v_lets :: .int v_questions :: .int v_statements :: .ref a_isTold :: .ref a_letOf :: .ref a_code :: .int v_size :: .ref a_letEnd :: .ref a_letBegin :: .ref a_sort :: .ref a_column :: .ref a_low :: .ref a_high :: .ref a_by :: .ref a_top :: .ref a_begins :: .ref a_ends :: .int v_hasScript :: .int v_scriptLets :: .int v_scriptQuestions :: .ref a_scriptCode :: .ref a_scriptLetBegin :: .ref a_scriptLetEnd :: .ref a_aSort :: .ref a_aColumn :: .ref a_aLow :: .ref a_aHigh :: .ref a_aBy :: .ref a_aTop :: .ref a_aBegin :: .ref a_anEnd :: .ref a_told :: .int v_toldCount :: .ref a_out :: .int v_outs :: .ref a_goals :: .ref a_withs :: .int v_goalCount :: .ref a_pile :: .ref a_letValue :: .ref a_one :: .ref a_two :: [])), (a_text, .inl (gI G, 2000, .inl f_text)), (a_kinds, .inl (gI G, 2000, .inl (upd f_kinds v_tokens.toNatClampNeg v_kind))), (a_values, .inl (gI G, 2000, .inl (upd f_values v_tokens.toNatClampNeg v_value)))] := hD
  refine lv_aload_n hx hb d_Mo_pass_36 rfl (lv_at hl 0 rfl) ?_
  obtain ⟨r1, hr1⟩ : ∃ r, (s_Mo_look f_text v_signs v_at) = r := ⟨_, rfl⟩
  have hC_r1 := (c_Mo_look l G h a_table a_tape a_budget a_spent a_text a_kinds a_values a_scriptKinds a_scriptValues a_isTold a_letOf a_code a_letEnd a_letBegin a_sort a_column a_low a_high a_by a_top a_begins a_ends a_scriptCode a_scriptLetBegin a_scriptLetEnd a_aSort a_aColumn a_aLow a_aHigh a_aBy a_aTop a_aBegin a_anEnd a_told a_out a_goals a_withs a_pile a_letValue a_one a_two v_p v_q v_rows v_cells f_text v_signs (v_tokens + 1) v_scriptTokens v_at v_place v_kind v_value v_depth v_asked v_lets v_questions v_statements v_size v_hasScript v_scriptLets v_scriptQuestions v_toldCount v_outs v_goalCount hp.2.2.1)
  rw [hr1] at hC_r1
  refine ly_callV (rest := []) (wf := [(h, .inr (12, .int v_p :: .int v_q :: .ref a_table :: .int v_rows :: .ref a_tape :: .int v_cells :: .ref a_budget :: .ref a_spent :: .ref a_text :: .int v_signs :: .ref a_kinds :: .ref a_values :: .int (v_tokens + 1) :: .ref a_scriptKinds :: .ref a_scriptValues :: .int v_scriptTokens :: .int r1.1 :: .int r1.2.1 :: .int r1.2.2.1 :: .int r1.2.2.2 :: .int v_depth :: .int v_asked :: .int v_lets :: .int v_questions :: .int v_statements :: .ref a_isTold :: .ref a_letOf :: .ref a_code :: .int v_size :: .ref a_letEnd :: .ref a_letBegin :: .ref a_sort :: .ref a_column :: .ref a_low :: .ref a_high :: .ref a_by :: .ref a_top :: .ref a_begins :: .ref a_ends :: .int v_hasScript :: .int v_scriptLets :: .int v_scriptQuestions :: .ref a_scriptCode :: .ref a_scriptLetBegin :: .ref a_scriptLetEnd :: .ref a_aSort :: .ref a_aColumn :: .ref a_aLow :: .ref a_aHigh :: .ref a_aBy :: .ref a_aTop :: .ref a_aBegin :: .ref a_anEnd :: .ref a_told :: .int v_toldCount :: .ref a_out :: .int v_outs :: .ref a_goals :: .ref a_withs :: .int v_goalCount :: .ref a_pile :: .ref a_letValue :: .ref a_one :: .ref a_two :: [])), (a_text, .inl (gI G, 2000, .inl f_text)), (a_kinds, .inl (gI G, 2000, .inl (upd f_kinds v_tokens.toNatClampNeg v_kind))), (a_values, .inl (gI G, 2000, .inl (upd f_values v_tokens.toNatClampNeg v_value)))]) ⟨hx, hb, hml, hown, hts⟩ hA hK hZ hP hD hS hC_r1 (cwV 0 hts g_Mo_223 rfl rfl rfl (by decide +kernel) ⟨Nat.le_of_ble_eq_true rfl, Nat.le_of_ble_eq_true rfl⟩) (ci := 12) (q0 := 0) rfl rfl rfl [0, 1] rfl (by decide) rfl rfl rfl hl.1 rfl (Nat.le_of_ble_eq_true rfl) d_Mo_pass_37 ⟨Nat.le_of_ble_eq_true rfl, Nat.le_of_ble_eq_true rfl⟩ (st1 := []) (c1 := 0) (s1 := 0) rfl rfl rfl (fun H locs hP hD hS => ?_)
  refine lv_iconst (v := 1) hx hb d_Mo_pass_40 (by decide) ?_
  exact ly_zret hx hb hr hlocks hP hD hS d_Mo_pass_41 (by decide) rfl (by rw [s_Mo_pass] <;> simp only [hr1])
