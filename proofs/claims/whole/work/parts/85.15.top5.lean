/-! bins -/
section TOP5
variable {g K V P : Nat → Int32} {N n : Nat} {e pos : Nat → Nat} {LO told lo : Nat → Int32} {Lc : Nat}
theorem d64 (a b : Int32) : (a.toInt64 - b.toInt64).toInt = a.toInt - b.toInt := by
  rw [Int64.toInt_sub, Int32.toInt_toInt64, Int32.toInt_toInt64]
  have h1 := Int32.le_toInt a
  have h2 := Int32.toInt_lt a
  have h3 := Int32.le_toInt b
  have h4 := Int32.toInt_lt b
  exact Int.bmod_eq_of_le (by omega) (by omega)
theorem lt0 (a b : Int32) : lg_cmp (a.toInt64 - b.toInt64) 0 < 0 ↔ a < b := by
  rw [lg_cmp_lt, Int64.lt_iff_toInt_lt, d64, show (0 : Int64).toInt = 0 by decide, Int32.lt_iff_toInt_lt]
  omega
theorem ge20 (x : Int64) : (0 ≤ lg_cmp x 20) ↔ ¬ lg_cmp x 20 < 0 := by
  rw [lg_cmp_ge, lg_cmp_lt, Int64.le_iff_toInt_le, Int64.lt_iff_toInt_lt]
  omega
theorem span20 {a b : Int32} (h1 : ¬ a < b) (h2 : lg_cmp (a.toInt64 - b.toInt64) 20 < 0) : ∃ k : Nat, k < 20 ∧ a.toInt = b.toInt + k := by
  rw [Int32.lt_iff_toInt_lt] at h1
  rw [lg_cmp_lt, Int64.lt_iff_toInt_lt, d64, show (20 : Int64).toInt = 20 by decide] at h2
  exact ⟨(a.toInt - b.toInt).toNat, by omega, by omega⟩
theorem one_m (x : Int32) : 1 * x = x := Int32.one_mul x
theorem neg_m (x : Int32) : (-1) * x = -x := by
  apply Int32.toInt_inj.mp
  rw [Int32.toInt_mul, show (-1 : Int32).toInt = -1 by decide, Int32.toInt_neg, Int.neg_mul, Int.one_mul]
/-- the end of a range: the upper number -/
def rngE (K V : Nat → Int32) (t X s : Int32) : Int32 × Int32 × Int32 × Int32 :=
  if (lg_cmp (((s * s_Par_value V t).toInt64) - (X.toInt64)) 0) < 0 then (0, t, X, s * s_Par_value V t)
  else if 0 ≤ (lg_cmp (((s * s_Par_value V t).toInt64) - (X.toInt64)) 20) then (0, t, X, s * s_Par_value V t)
  else if (s_Par_take K t 2).1 = 0 then (0, (s_Par_take K t 2).2, X, s * s_Par_value V t)
  else (1, (s_Par_take K t 2).2, X, s * s_Par_value V t)
theorem rngE_sim (L : LexR g K V P N n e pos) {m : MS} {t : Nat} (hat : At g K V N n e m t) (X s : Int32) :
    (∃ v : Nat, v < 2 ^ 31 ∧ m.kd = 15 ∧ m.vl = nI v ∧ ¬ s * nI v < X ∧ lg_cmp ((s * nI v).toInt64 - X.toInt64) 20 < 0 ∧ rngE K V (nI t) X s = (1, nI (t + 1), X, s * nI v) ∧ ∃ m1 : MS, Nx g N m m1 ∧ At g K V N n e m1 (t + 1)) ∨
    ((rngE K V (nI t) X s).1 = 0 ∧ (rngE K V (nI t) X s).2.1 = nI t ∧ (m.kd = 15 → ¬ s * m.vl < X → ¬ lg_cmp ((s * m.vl).toInt64 - X.toInt64) 20 < 0)) := by
  have hn := L.le
  have hN := L.hN
  have ht := hat.1
  unfold rngE
  rw [par_value (show t ≤ 2000 by omega)]
  rcases take_sim L hat 2 2 15 (by decide) (by decide) rfl rfl with ⟨a1, a2, a3, a4, a5, ⟨v, a6, a8⟩, a7⟩ | ⟨a1, a2, a3⟩
  · rw [a1, a5, a8]
    by_cases c1 : s * nI v < X
    · rw [if_pos ((lt0 _ _).mpr c1)]
      exact Or.inr ⟨rfl, rfl, fun _ q => absurd c1 q⟩
    · rw [if_neg (fun q => c1 ((lt0 _ _).mp q))]
      by_cases c2 : lg_cmp ((s * nI v).toInt64 - X.toInt64) 20 < 0
      · rw [if_neg (fun q => (ge20 _).mp q c2)]
        dsimp only
        rw [if10]
        exact Or.inl ⟨v, a6.2.2.1, a2, rfl, c1, c2, rfl, a7⟩
      · rw [if_pos ((ge20 _).mpr c2)]
        exact Or.inr ⟨rfl, rfl, fun _ _ => c2⟩
  · refine Or.inr ?_
    rw [a1]
    dsimp only
    rw [if_pos (show (0 : Int32) = 0 from rfl)]
    refine ⟨?_, ?_, fun q => absurd q a2⟩
    · split
      · rfl
      · split <;> rfl
    · split
      · rfl
      · split <;> rfl
theorem su_if {w : WT} {a b c : Nat → Int32} (h : w.1 = 0 ∨ w.1 = 1) : (if w.1 = 0 then ((0 : Int32), w.2.1, w.2.2.1, w.2.2.2.1, w.2.2.2.2.1, w.2.2.2.2.2.1, w.2.2.2.2.2.2.1, w.2.2.2.2.2.2.2.1, w.2.2.2.2.2.2.2.2.1, w.2.2.2.2.2.2.2.2.2.1, w.2.2.2.2.2.2.2.2.2.2.1, w.2.2.2.2.2.2.2.2.2.2.2.1, w.2.2.2.2.2.2.2.2.2.2.2.2.1, a, b, c, w.2.2.2.2.2.2.2.2.2.2.2.2.2.1, w.2.2.2.2.2.2.2.2.2.2.2.2.2.2.1, w.2.2.2.2.2.2.2.2.2.2.2.2.2.2.2.1, w.2.2.2.2.2.2.2.2.2.2.2.2.2.2.2.2.1, w.2.2.2.2.2.2.2.2.2.2.2.2.2.2.2.2.2) else (1, w.2.1, w.2.2.1, w.2.2.2.1, w.2.2.2.2.1, w.2.2.2.2.2.1, w.2.2.2.2.2.2.1, w.2.2.2.2.2.2.2.1, w.2.2.2.2.2.2.2.2.1, w.2.2.2.2.2.2.2.2.2.1, w.2.2.2.2.2.2.2.2.2.2.1, w.2.2.2.2.2.2.2.2.2.2.2.1, w.2.2.2.2.2.2.2.2.2.2.2.2.1, a, b, c, w.2.2.2.2.2.2.2.2.2.2.2.2.2.1, w.2.2.2.2.2.2.2.2.2.2.2.2.2.2.1, w.2.2.2.2.2.2.2.2.2.2.2.2.2.2.2.1, w.2.2.2.2.2.2.2.2.2.2.2.2.2.2.2.2.1, w.2.2.2.2.2.2.2.2.2.2.2.2.2.2.2.2.2)) = suT w a b c := by
  unfold suT
  rcases h with h | h
  · rw [if_pos h, h]
  · rw [if_neg (by rw [h]; decide), h]
theorem QsR.fst {m : MS} {t cs nq : Nat} {S W : Nat → Int32} {Q : Nat → Nat → Int32} {F : Int32 → Int32 → Int32 → Nat → Int32} {tp bg en : Nat → Int32} {r : AT} {w : WT} (h : QsR g K V P N n e Lc m t cs nq S W Q F tp bg en r w) : w.1 = 0 ∨ w.1 = 1 := by
  rcases h with ⟨_, _, _, _, _, _, _, _, _, rfl, _⟩ | ⟨_, _, _, _, _, _, _, _, rfl, _⟩
  · exact Or.inr rfl
  · exact Or.inl rfl
def kb_r17 (f_text : Nat → Int32) (v_signs : Int32) (f_kinds : Nat → Int32) (f_values : Nat → Int32) (v_tokens : Int32) (v_at : Int32) (v_place : Int32) (v_kind : Int32) (v_value : Int32) (v_depth : Int32) (v_asked : Int32) (f_isTold : Nat → Int32) (f_letOf : Nat → Int32) (f_code : Nat → Int32) (v_size : Int32) (f_column : Nat → Int32) (f_low : Nat → Int32) (f_high : Nat → Int32) (f_top : Nat → Int32) (f_begins : Nat → Int32) (f_ends : Nat → Int32) (f_goals : Nat → Int32) (f_withs : Nat → Int32) (v_goalCount : Int32) (x : Int32) (r1 : Int32 × Int32 × Int32 × Int32 × Int32 × Int32 × (Nat → Int32) × (Nat → Int32) × (Nat → Int32)) (r2 : Int32 × Int32 × Int32 × Int32 × Int32 × Int32 × (Nat → Int32) × (Nat → Int32)) (r10 : Int32 × Int32 × Int32 × Int32 × Int32 × (Nat → Int32) × (Nat → Int32)) (r11 : Int32 × Int32 × Int32 × Int32 × Int32 × Int32 × (Nat → Int32) × (Nat → Int32)) (r12 : Int32 × Int32 × Int32 × Int32 × Int32 × Int32 × (Nat → Int32) × (Nat → Int32)) (r15 : Int32 × Int32 × Int32 × Int32 × Int32 × (Nat → Int32) × (Nat → Int32)) (r16 : Int32 × Int32 × Int32 × Int32 × Int32 × (Nat → Int32) × (Nat → Int32)) (r17 : WT) : ST :=

          if r17.1 = 0 then (0, r17.2.1, r17.2.2.1, r17.2.2.2.1, r17.2.2.2.2.1, r17.2.2.2.2.2.1, r17.2.2.2.2.2.2.1, r17.2.2.2.2.2.2.2.1, r17.2.2.2.2.2.2.2.2.1, r17.2.2.2.2.2.2.2.2.2.1, r17.2.2.2.2.2.2.2.2.2.2.1, r17.2.2.2.2.2.2.2.2.2.2.2.1, r17.2.2.2.2.2.2.2.2.2.2.2.2.1, r1.2.2.2.2.2.2.2.2, upd f_low x.toNatClampNeg (-r10.2.2.2.2.1), upd f_high x.toNatClampNeg (-r15.2.2.2.2.1), r17.2.2.2.2.2.2.2.2.2.2.2.2.2.1, r17.2.2.2.2.2.2.2.2.2.2.2.2.2.2.1, r17.2.2.2.2.2.2.2.2.2.2.2.2.2.2.2.1, r17.2.2.2.2.2.2.2.2.2.2.2.2.2.2.2.2.1, r17.2.2.2.2.2.2.2.2.2.2.2.2.2.2.2.2.2)
          else (1, r17.2.1, r17.2.2.1, r17.2.2.2.1, r17.2.2.2.2.1, r17.2.2.2.2.2.1, r17.2.2.2.2.2.2.1, r17.2.2.2.2.2.2.2.1, r17.2.2.2.2.2.2.2.2.1, r17.2.2.2.2.2.2.2.2.2.1, r17.2.2.2.2.2.2.2.2.2.2.1, r17.2.2.2.2.2.2.2.2.2.2.2.1, r17.2.2.2.2.2.2.2.2.2.2.2.2.1, r1.2.2.2.2.2.2.2.2, upd f_low x.toNatClampNeg (-r10.2.2.2.2.1), upd f_high x.toNatClampNeg (-r15.2.2.2.2.1), r17.2.2.2.2.2.2.2.2.2.2.2.2.2.1, r17.2.2.2.2.2.2.2.2.2.2.2.2.2.2.1, r17.2.2.2.2.2.2.2.2.2.2.2.2.2.2.2.1, r17.2.2.2.2.2.2.2.2.2.2.2.2.2.2.2.2.1, r17.2.2.2.2.2.2.2.2.2.2.2.2.2.2.2.2.2)
def kb_r16 (f_text : Nat → Int32) (v_signs : Int32) (f_kinds : Nat → Int32) (f_values : Nat → Int32) (v_tokens : Int32) (v_at : Int32) (v_place : Int32) (v_kind : Int32) (v_value : Int32) (v_depth : Int32) (v_asked : Int32) (f_isTold : Nat → Int32) (f_letOf : Nat → Int32) (f_code : Nat → Int32) (v_size : Int32) (f_column : Nat → Int32) (f_low : Nat → Int32) (f_high : Nat → Int32) (f_top : Nat → Int32) (f_begins : Nat → Int32) (f_ends : Nat → Int32) (f_goals : Nat → Int32) (f_withs : Nat → Int32) (v_goalCount : Int32) (x : Int32) (r1 : Int32 × Int32 × Int32 × Int32 × Int32 × Int32 × (Nat → Int32) × (Nat → Int32) × (Nat → Int32)) (r2 : Int32 × Int32 × Int32 × Int32 × Int32 × Int32 × (Nat → Int32) × (Nat → Int32)) (r10 : Int32 × Int32 × Int32 × Int32 × Int32 × (Nat → Int32) × (Nat → Int32)) (r11 : Int32 × Int32 × Int32 × Int32 × Int32 × Int32 × (Nat → Int32) × (Nat → Int32)) (r12 : Int32 × Int32 × Int32 × Int32 × Int32 × Int32 × (Nat → Int32) × (Nat → Int32)) (r15 : Int32 × Int32 × Int32 × Int32 × Int32 × (Nat → Int32) × (Nat → Int32)) (r16 : Int32 × Int32 × Int32 × Int32 × Int32 × (Nat → Int32) × (Nat → Int32)) : ST :=

          (kb_r17 f_text v_signs f_kinds f_values v_tokens v_at v_place v_kind v_value v_depth v_asked f_isTold f_letOf f_code v_size f_column f_low f_high f_top f_begins f_ends f_goals f_withs v_goalCount x r1 r2 r10 r11 r12 r15 r16 (s_Mo_readWhere f_text v_signs r16.2.2.2.2.2.1 r16.2.2.2.2.2.2 r16.1 r16.2.1 r16.2.2.1 r16.2.2.2.1 r16.2.2.2.2.1 v_depth v_asked f_isTold f_letOf f_code v_size f_top f_begins f_ends f_goals f_withs v_goalCount x))
def kb_r15 (f_text : Nat → Int32) (v_signs : Int32) (f_kinds : Nat → Int32) (f_values : Nat → Int32) (v_tokens : Int32) (v_at : Int32) (v_place : Int32) (v_kind : Int32) (v_value : Int32) (v_depth : Int32) (v_asked : Int32) (f_isTold : Nat → Int32) (f_letOf : Nat → Int32) (f_code : Nat → Int32) (v_size : Int32) (f_column : Nat → Int32) (f_low : Nat → Int32) (f_high : Nat → Int32) (f_top : Nat → Int32) (f_begins : Nat → Int32) (f_ends : Nat → Int32) (f_goals : Nat → Int32) (f_withs : Nat → Int32) (v_goalCount : Int32) (x : Int32) (r1 : Int32 × Int32 × Int32 × Int32 × Int32 × Int32 × (Nat → Int32) × (Nat → Int32) × (Nat → Int32)) (r2 : Int32 × Int32 × Int32 × Int32 × Int32 × Int32 × (Nat → Int32) × (Nat → Int32)) (r10 : Int32 × Int32 × Int32 × Int32 × Int32 × (Nat → Int32) × (Nat → Int32)) (r11 : Int32 × Int32 × Int32 × Int32 × Int32 × Int32 × (Nat → Int32) × (Nat → Int32)) (r12 : Int32 × Int32 × Int32 × Int32 × Int32 × Int32 × (Nat → Int32) × (Nat → Int32)) (r15 : Int32 × Int32 × Int32 × Int32 × Int32 × (Nat → Int32) × (Nat → Int32)) : ST :=

      if r15.2.2.2.1 = 15 then if ((upd f_high x.toNatClampNeg (-r15.2.2.2.2.1)) x.toNatClampNeg) < ((upd f_low x.toNatClampNeg (-r10.2.2.2.2.1)) x.toNatClampNeg) then (0, r15.1, r15.2.1, r15.2.2.1, r15.2.2.2.1, r15.2.2.2.2.1, v_depth, v_asked, v_size, v_goalCount, r15.2.2.2.2.2.1, r15.2.2.2.2.2.2, f_code, r1.2.2.2.2.2.2.2.2, upd f_low x.toNatClampNeg (-r10.2.2.2.2.1), upd f_high x.toNatClampNeg (-r15.2.2.2.2.1), f_top, f_begins, f_ends, f_goals, f_withs)
        else if (lg_cmp ((((upd f_high x.toNatClampNeg (-r15.2.2.2.2.1)) x.toNatClampNeg).toInt64) - (((upd f_low x.toNatClampNeg (-r10.2.2.2.2.1)) x.toNatClampNeg).toInt64)) 20) < 0 then ((kb_r16 f_text v_signs f_kinds f_values v_tokens v_at v_place v_kind v_value v_depth v_asked f_isTold f_letOf f_code v_size f_column f_low f_high f_top f_begins f_ends f_goals f_withs v_goalCount x r1 r2 r10 r11 r12 r15 (s_Mo_pass f_text v_signs r15.2.2.2.2.2.1 r15.2.2.2.2.2.2 r15.1 r15.2.1 r15.2.2.2.1 r15.2.2.2.2.1)))
        else (0, r15.1, r15.2.1, r15.2.2.1, r15.2.2.2.1, r15.2.2.2.2.1, v_depth, v_asked, v_size, v_goalCount, r15.2.2.2.2.2.1, r15.2.2.2.2.2.2, f_code, r1.2.2.2.2.2.2.2.2, upd f_low x.toNatClampNeg (-r10.2.2.2.2.1), upd f_high x.toNatClampNeg (-r15.2.2.2.2.1), f_top, f_begins, f_ends, f_goals, f_withs)
      else (0, r15.1, r15.2.1, r15.2.2.1, r15.2.2.2.1, r15.2.2.2.2.1, v_depth, v_asked, v_size, v_goalCount, r15.2.2.2.2.2.1, r15.2.2.2.2.2.2, f_code, r1.2.2.2.2.2.2.2.2, upd f_low x.toNatClampNeg (-r10.2.2.2.2.1), upd f_high x.toNatClampNeg (-r15.2.2.2.2.1), f_top, f_begins, f_ends, f_goals, f_withs)
def kb_r14 (f_text : Nat → Int32) (v_signs : Int32) (f_kinds : Nat → Int32) (f_values : Nat → Int32) (v_tokens : Int32) (v_at : Int32) (v_place : Int32) (v_kind : Int32) (v_value : Int32) (v_depth : Int32) (v_asked : Int32) (f_isTold : Nat → Int32) (f_letOf : Nat → Int32) (f_code : Nat → Int32) (v_size : Int32) (f_column : Nat → Int32) (f_low : Nat → Int32) (f_high : Nat → Int32) (f_top : Nat → Int32) (f_begins : Nat → Int32) (f_ends : Nat → Int32) (f_goals : Nat → Int32) (f_withs : Nat → Int32) (v_goalCount : Int32) (x : Int32) (r1 : Int32 × Int32 × Int32 × Int32 × Int32 × Int32 × (Nat → Int32) × (Nat → Int32) × (Nat → Int32)) (r2 : Int32 × Int32 × Int32 × Int32 × Int32 × Int32 × (Nat → Int32) × (Nat → Int32)) (r10 : Int32 × Int32 × Int32 × Int32 × Int32 × (Nat → Int32) × (Nat → Int32)) (r11 : Int32 × Int32 × Int32 × Int32 × Int32 × Int32 × (Nat → Int32) × (Nat → Int32)) (r12 : Int32 × Int32 × Int32 × Int32 × Int32 × Int32 × (Nat → Int32) × (Nat → Int32)) (r13 : Int32 × Int32 × Int32 × Int32 × Int32 × (Nat → Int32) × (Nat → Int32)) (r14 : WT) : ST :=

        if r14.1 = 0 then (0, r14.2.1, r14.2.2.1, r14.2.2.2.1, r14.2.2.2.2.1, r14.2.2.2.2.2.1, r14.2.2.2.2.2.2.1, r14.2.2.2.2.2.2.2.1, r14.2.2.2.2.2.2.2.2.1, r14.2.2.2.2.2.2.2.2.2.1, r14.2.2.2.2.2.2.2.2.2.2.1, r14.2.2.2.2.2.2.2.2.2.2.2.1, r14.2.2.2.2.2.2.2.2.2.2.2.2.1, r1.2.2.2.2.2.2.2.2, upd f_low x.toNatClampNeg (-r10.2.2.2.2.1), upd f_high x.toNatClampNeg r12.2.2.2.2.2.1, r14.2.2.2.2.2.2.2.2.2.2.2.2.2.1, r14.2.2.2.2.2.2.2.2.2.2.2.2.2.2.1, r14.2.2.2.2.2.2.2.2.2.2.2.2.2.2.2.1, r14.2.2.2.2.2.2.2.2.2.2.2.2.2.2.2.2.1, r14.2.2.2.2.2.2.2.2.2.2.2.2.2.2.2.2.2)
        else (1, r14.2.1, r14.2.2.1, r14.2.2.2.1, r14.2.2.2.2.1, r14.2.2.2.2.2.1, r14.2.2.2.2.2.2.1, r14.2.2.2.2.2.2.2.1, r14.2.2.2.2.2.2.2.2.1, r14.2.2.2.2.2.2.2.2.2.1, r14.2.2.2.2.2.2.2.2.2.2.1, r14.2.2.2.2.2.2.2.2.2.2.2.1, r14.2.2.2.2.2.2.2.2.2.2.2.2.1, r1.2.2.2.2.2.2.2.2, upd f_low x.toNatClampNeg (-r10.2.2.2.2.1), upd f_high x.toNatClampNeg r12.2.2.2.2.2.1, r14.2.2.2.2.2.2.2.2.2.2.2.2.2.1, r14.2.2.2.2.2.2.2.2.2.2.2.2.2.2.1, r14.2.2.2.2.2.2.2.2.2.2.2.2.2.2.2.1, r14.2.2.2.2.2.2.2.2.2.2.2.2.2.2.2.2.1, r14.2.2.2.2.2.2.2.2.2.2.2.2.2.2.2.2.2)
def kb_r13 (f_text : Nat → Int32) (v_signs : Int32) (f_kinds : Nat → Int32) (f_values : Nat → Int32) (v_tokens : Int32) (v_at : Int32) (v_place : Int32) (v_kind : Int32) (v_value : Int32) (v_depth : Int32) (v_asked : Int32) (f_isTold : Nat → Int32) (f_letOf : Nat → Int32) (f_code : Nat → Int32) (v_size : Int32) (f_column : Nat → Int32) (f_low : Nat → Int32) (f_high : Nat → Int32) (f_top : Nat → Int32) (f_begins : Nat → Int32) (f_ends : Nat → Int32) (f_goals : Nat → Int32) (f_withs : Nat → Int32) (v_goalCount : Int32) (x : Int32) (r1 : Int32 × Int32 × Int32 × Int32 × Int32 × Int32 × (Nat → Int32) × (Nat → Int32) × (Nat → Int32)) (r2 : Int32 × Int32 × Int32 × Int32 × Int32 × Int32 × (Nat → Int32) × (Nat → Int32)) (r10 : Int32 × Int32 × Int32 × Int32 × Int32 × (Nat → Int32) × (Nat → Int32)) (r11 : Int32 × Int32 × Int32 × Int32 × Int32 × Int32 × (Nat → Int32) × (Nat → Int32)) (r12 : Int32 × Int32 × Int32 × Int32 × Int32 × Int32 × (Nat → Int32) × (Nat → Int32)) (r13 : Int32 × Int32 × Int32 × Int32 × Int32 × (Nat → Int32) × (Nat → Int32)) : ST :=

        (kb_r14 f_text v_signs f_kinds f_values v_tokens v_at v_place v_kind v_value v_depth v_asked f_isTold f_letOf f_code v_size f_column f_low f_high f_top f_begins f_ends f_goals f_withs v_goalCount x r1 r2 r10 r11 r12 r13 (s_Mo_readWhere f_text v_signs r13.2.2.2.2.2.1 r13.2.2.2.2.2.2 r13.1 r13.2.1 r13.2.2.1 r13.2.2.2.1 r13.2.2.2.2.1 v_depth v_asked f_isTold f_letOf f_code v_size f_top f_begins f_ends f_goals f_withs v_goalCount x))
def kb_r12 (f_text : Nat → Int32) (v_signs : Int32) (f_kinds : Nat → Int32) (f_values : Nat → Int32) (v_tokens : Int32) (v_at : Int32) (v_place : Int32) (v_kind : Int32) (v_value : Int32) (v_depth : Int32) (v_asked : Int32) (f_isTold : Nat → Int32) (f_letOf : Nat → Int32) (f_code : Nat → Int32) (v_size : Int32) (f_column : Nat → Int32) (f_low : Nat → Int32) (f_high : Nat → Int32) (f_top : Nat → Int32) (f_begins : Nat → Int32) (f_ends : Nat → Int32) (f_goals : Nat → Int32) (f_withs : Nat → Int32) (v_goalCount : Int32) (x : Int32) (r1 : Int32 × Int32 × Int32 × Int32 × Int32 × Int32 × (Nat → Int32) × (Nat → Int32) × (Nat → Int32)) (r2 : Int32 × Int32 × Int32 × Int32 × Int32 × Int32 × (Nat → Int32) × (Nat → Int32)) (r10 : Int32 × Int32 × Int32 × Int32 × Int32 × (Nat → Int32) × (Nat → Int32)) (r11 : Int32 × Int32 × Int32 × Int32 × Int32 × Int32 × (Nat → Int32) × (Nat → Int32)) (r12 : Int32 × Int32 × Int32 × Int32 × Int32 × Int32 × (Nat → Int32) × (Nat → Int32)) : ST :=

    if r12.1 = 0 then (0, r12.2.1, r12.2.2.1, r12.2.2.2.1, r12.2.2.2.2.1, r12.2.2.2.2.2.1, v_depth, v_asked, v_size, v_goalCount, r12.2.2.2.2.2.2.1, r12.2.2.2.2.2.2.2, f_code, r1.2.2.2.2.2.2.2.2, upd f_low x.toNatClampNeg (-r10.2.2.2.2.1), f_high, f_top, f_begins, f_ends, f_goals, f_withs)
    else if r12.2.2.2.2.1 = 24 then ((kb_r15 f_text v_signs f_kinds f_values v_tokens v_at v_place v_kind v_value v_depth v_asked f_isTold f_letOf f_code v_size f_column f_low f_high f_top f_begins f_ends f_goals f_withs v_goalCount x r1 r2 r10 r11 r12 (s_Mo_pass f_text v_signs r12.2.2.2.2.2.2.1 r12.2.2.2.2.2.2.2 r12.2.1 r12.2.2.1 r12.2.2.2.2.1 r12.2.2.2.2.2.1)))
    else if r12.2.2.2.2.1 = 15 then if ((upd f_high x.toNatClampNeg r12.2.2.2.2.2.1) x.toNatClampNeg) < ((upd f_low x.toNatClampNeg (-r10.2.2.2.2.1)) x.toNatClampNeg) then (0, r12.2.1, r12.2.2.1, r12.2.2.2.1, r12.2.2.2.2.1, r12.2.2.2.2.2.1, v_depth, v_asked, v_size, v_goalCount, r12.2.2.2.2.2.2.1, r12.2.2.2.2.2.2.2, f_code, r1.2.2.2.2.2.2.2.2, upd f_low x.toNatClampNeg (-r10.2.2.2.2.1), upd f_high x.toNatClampNeg r12.2.2.2.2.2.1, f_top, f_begins, f_ends, f_goals, f_withs)
      else if (lg_cmp ((((upd f_high x.toNatClampNeg r12.2.2.2.2.2.1) x.toNatClampNeg).toInt64) - (((upd f_low x.toNatClampNeg (-r10.2.2.2.2.1)) x.toNatClampNeg).toInt64)) 20) < 0 then ((kb_r13 f_text v_signs f_kinds f_values v_tokens v_at v_place v_kind v_value v_depth v_asked f_isTold f_letOf f_code v_size f_column f_low f_high f_top f_begins f_ends f_goals f_withs v_goalCount x r1 r2 r10 r11 r12 (s_Mo_pass f_text v_signs r12.2.2.2.2.2.2.1 r12.2.2.2.2.2.2.2 r12.2.1 r12.2.2.1 r12.2.2.2.2.1 r12.2.2.2.2.2.1)))
      else (0, r12.2.1, r12.2.2.1, r12.2.2.2.1, r12.2.2.2.2.1, r12.2.2.2.2.2.1, v_depth, v_asked, v_size, v_goalCount, r12.2.2.2.2.2.2.1, r12.2.2.2.2.2.2.2, f_code, r1.2.2.2.2.2.2.2.2, upd f_low x.toNatClampNeg (-r10.2.2.2.2.1), upd f_high x.toNatClampNeg r12.2.2.2.2.2.1, f_top, f_begins, f_ends, f_goals, f_withs)
    else (0, r12.2.1, r12.2.2.1, r12.2.2.2.1, r12.2.2.2.2.1, r12.2.2.2.2.2.1, v_depth, v_asked, v_size, v_goalCount, r12.2.2.2.2.2.2.1, r12.2.2.2.2.2.2.2, f_code, r1.2.2.2.2.2.2.2.2, upd f_low x.toNatClampNeg (-r10.2.2.2.2.1), upd f_high x.toNatClampNeg r12.2.2.2.2.2.1, f_top, f_begins, f_ends, f_goals, f_withs)
def kb_r11 (f_text : Nat → Int32) (v_signs : Int32) (f_kinds : Nat → Int32) (f_values : Nat → Int32) (v_tokens : Int32) (v_at : Int32) (v_place : Int32) (v_kind : Int32) (v_value : Int32) (v_depth : Int32) (v_asked : Int32) (f_isTold : Nat → Int32) (f_letOf : Nat → Int32) (f_code : Nat → Int32) (v_size : Int32) (f_column : Nat → Int32) (f_low : Nat → Int32) (f_high : Nat → Int32) (f_top : Nat → Int32) (f_begins : Nat → Int32) (f_ends : Nat → Int32) (f_goals : Nat → Int32) (f_withs : Nat → Int32) (v_goalCount : Int32) (x : Int32) (r1 : Int32 × Int32 × Int32 × Int32 × Int32 × Int32 × (Nat → Int32) × (Nat → Int32) × (Nat → Int32)) (r2 : Int32 × Int32 × Int32 × Int32 × Int32 × Int32 × (Nat → Int32) × (Nat → Int32)) (r10 : Int32 × Int32 × Int32 × Int32 × Int32 × (Nat → Int32) × (Nat → Int32)) (r11 : Int32 × Int32 × Int32 × Int32 × Int32 × Int32 × (Nat → Int32) × (Nat → Int32)) : ST :=

    if r11.1 = 0 then (0, r11.2.1, r11.2.2.1, r11.2.2.2.1, r11.2.2.2.2.1, r11.2.2.2.2.2.1, v_depth, v_asked, v_size, v_goalCount, r11.2.2.2.2.2.2.1, r11.2.2.2.2.2.2.2, f_code, r1.2.2.2.2.2.2.2.2, upd f_low x.toNatClampNeg (-r10.2.2.2.2.1), f_high, f_top, f_begins, f_ends, f_goals, f_withs)
    else (kb_r12 f_text v_signs f_kinds f_values v_tokens v_at v_place v_kind v_value v_depth v_asked f_isTold f_letOf f_code v_size f_column f_low f_high f_top f_begins f_ends f_goals f_withs v_goalCount x r1 r2 r10 r11 (s_Mo_passOne f_text v_signs r11.2.2.2.2.2.2.1 r11.2.2.2.2.2.2.2 r11.2.1 r11.2.2.1 r11.2.2.2.1 r11.2.2.2.2.1 r11.2.2.2.2.2.1 7))
def kb_r10 (f_text : Nat → Int32) (v_signs : Int32) (f_kinds : Nat → Int32) (f_values : Nat → Int32) (v_tokens : Int32) (v_at : Int32) (v_place : Int32) (v_kind : Int32) (v_value : Int32) (v_depth : Int32) (v_asked : Int32) (f_isTold : Nat → Int32) (f_letOf : Nat → Int32) (f_code : Nat → Int32) (v_size : Int32) (f_column : Nat → Int32) (f_low : Nat → Int32) (f_high : Nat → Int32) (f_top : Nat → Int32) (f_begins : Nat → Int32) (f_ends : Nat → Int32) (f_goals : Nat → Int32) (f_withs : Nat → Int32) (v_goalCount : Int32) (x : Int32) (r1 : Int32 × Int32 × Int32 × Int32 × Int32 × Int32 × (Nat → Int32) × (Nat → Int32) × (Nat → Int32)) (r2 : Int32 × Int32 × Int32 × Int32 × Int32 × Int32 × (Nat → Int32) × (Nat → Int32)) (r10 : Int32 × Int32 × Int32 × Int32 × Int32 × (Nat → Int32) × (Nat → Int32)) : ST :=

    (kb_r11 f_text v_signs f_kinds f_values v_tokens v_at v_place v_kind v_value v_depth v_asked f_isTold f_letOf f_code v_size f_column f_low f_high f_top f_begins f_ends f_goals f_withs v_goalCount x r1 r2 r10 (s_Mo_passOne f_text v_signs r10.2.2.2.2.2.1 r10.2.2.2.2.2.2 r10.1 r10.2.1 r10.2.2.1 r10.2.2.2.1 r10.2.2.2.2.1 15))
def kb_r9 (f_text : Nat → Int32) (v_signs : Int32) (f_kinds : Nat → Int32) (f_values : Nat → Int32) (v_tokens : Int32) (v_at : Int32) (v_place : Int32) (v_kind : Int32) (v_value : Int32) (v_depth : Int32) (v_asked : Int32) (f_isTold : Nat → Int32) (f_letOf : Nat → Int32) (f_code : Nat → Int32) (v_size : Int32) (f_column : Nat → Int32) (f_low : Nat → Int32) (f_high : Nat → Int32) (f_top : Nat → Int32) (f_begins : Nat → Int32) (f_ends : Nat → Int32) (f_goals : Nat → Int32) (f_withs : Nat → Int32) (v_goalCount : Int32) (x : Int32) (r1 : Int32 × Int32 × Int32 × Int32 × Int32 × Int32 × (Nat → Int32) × (Nat → Int32) × (Nat → Int32)) (r2 : Int32 × Int32 × Int32 × Int32 × Int32 × Int32 × (Nat → Int32) × (Nat → Int32)) (r3 : Int32 × Int32 × Int32 × Int32 × Int32 × Int32 × (Nat → Int32) × (Nat → Int32)) (r4 : Int32 × Int32 × Int32 × Int32 × Int32 × Int32 × (Nat → Int32) × (Nat → Int32)) (r7 : Int32 × Int32 × Int32 × Int32 × Int32 × (Nat → Int32) × (Nat → Int32)) (r8 : Int32 × Int32 × Int32 × Int32 × Int32 × (Nat → Int32) × (Nat → Int32)) (r9 : WT) : ST :=

        if r9.1 = 0 then (0, r9.2.1, r9.2.2.1, r9.2.2.2.1, r9.2.2.2.2.1, r9.2.2.2.2.2.1, r9.2.2.2.2.2.2.1, r9.2.2.2.2.2.2.2.1, r9.2.2.2.2.2.2.2.2.1, r9.2.2.2.2.2.2.2.2.2.1, r9.2.2.2.2.2.2.2.2.2.2.1, r9.2.2.2.2.2.2.2.2.2.2.2.1, r9.2.2.2.2.2.2.2.2.2.2.2.2.1, r1.2.2.2.2.2.2.2.2, upd f_low x.toNatClampNeg r2.2.2.2.2.2.1, upd f_high x.toNatClampNeg (-r7.2.2.2.2.1), r9.2.2.2.2.2.2.2.2.2.2.2.2.2.1, r9.2.2.2.2.2.2.2.2.2.2.2.2.2.2.1, r9.2.2.2.2.2.2.2.2.2.2.2.2.2.2.2.1, r9.2.2.2.2.2.2.2.2.2.2.2.2.2.2.2.2.1, r9.2.2.2.2.2.2.2.2.2.2.2.2.2.2.2.2.2)
        else (1, r9.2.1, r9.2.2.1, r9.2.2.2.1, r9.2.2.2.2.1, r9.2.2.2.2.2.1, r9.2.2.2.2.2.2.1, r9.2.2.2.2.2.2.2.1, r9.2.2.2.2.2.2.2.2.1, r9.2.2.2.2.2.2.2.2.2.1, r9.2.2.2.2.2.2.2.2.2.2.1, r9.2.2.2.2.2.2.2.2.2.2.2.1, r9.2.2.2.2.2.2.2.2.2.2.2.2.1, r1.2.2.2.2.2.2.2.2, upd f_low x.toNatClampNeg r2.2.2.2.2.2.1, upd f_high x.toNatClampNeg (-r7.2.2.2.2.1), r9.2.2.2.2.2.2.2.2.2.2.2.2.2.1, r9.2.2.2.2.2.2.2.2.2.2.2.2.2.2.1, r9.2.2.2.2.2.2.2.2.2.2.2.2.2.2.2.1, r9.2.2.2.2.2.2.2.2.2.2.2.2.2.2.2.2.1, r9.2.2.2.2.2.2.2.2.2.2.2.2.2.2.2.2.2)
def kb_r8 (f_text : Nat → Int32) (v_signs : Int32) (f_kinds : Nat → Int32) (f_values : Nat → Int32) (v_tokens : Int32) (v_at : Int32) (v_place : Int32) (v_kind : Int32) (v_value : Int32) (v_depth : Int32) (v_asked : Int32) (f_isTold : Nat → Int32) (f_letOf : Nat → Int32) (f_code : Nat → Int32) (v_size : Int32) (f_column : Nat → Int32) (f_low : Nat → Int32) (f_high : Nat → Int32) (f_top : Nat → Int32) (f_begins : Nat → Int32) (f_ends : Nat → Int32) (f_goals : Nat → Int32) (f_withs : Nat → Int32) (v_goalCount : Int32) (x : Int32) (r1 : Int32 × Int32 × Int32 × Int32 × Int32 × Int32 × (Nat → Int32) × (Nat → Int32) × (Nat → Int32)) (r2 : Int32 × Int32 × Int32 × Int32 × Int32 × Int32 × (Nat → Int32) × (Nat → Int32)) (r3 : Int32 × Int32 × Int32 × Int32 × Int32 × Int32 × (Nat → Int32) × (Nat → Int32)) (r4 : Int32 × Int32 × Int32 × Int32 × Int32 × Int32 × (Nat → Int32) × (Nat → Int32)) (r7 : Int32 × Int32 × Int32 × Int32 × Int32 × (Nat → Int32) × (Nat → Int32)) (r8 : Int32 × Int32 × Int32 × Int32 × Int32 × (Nat → Int32) × (Nat → Int32)) : ST :=

        (kb_r9 f_text v_signs f_kinds f_values v_tokens v_at v_place v_kind v_value v_depth v_asked f_isTold f_letOf f_code v_size f_column f_low f_high f_top f_begins f_ends f_goals f_withs v_goalCount x r1 r2 r3 r4 r7 r8 (s_Mo_readWhere f_text v_signs r8.2.2.2.2.2.1 r8.2.2.2.2.2.2 r8.1 r8.2.1 r8.2.2.1 r8.2.2.2.1 r8.2.2.2.2.1 v_depth v_asked f_isTold f_letOf f_code v_size f_top f_begins f_ends f_goals f_withs v_goalCount x))
def kb_r7 (f_text : Nat → Int32) (v_signs : Int32) (f_kinds : Nat → Int32) (f_values : Nat → Int32) (v_tokens : Int32) (v_at : Int32) (v_place : Int32) (v_kind : Int32) (v_value : Int32) (v_depth : Int32) (v_asked : Int32) (f_isTold : Nat → Int32) (f_letOf : Nat → Int32) (f_code : Nat → Int32) (v_size : Int32) (f_column : Nat → Int32) (f_low : Nat → Int32) (f_high : Nat → Int32) (f_top : Nat → Int32) (f_begins : Nat → Int32) (f_ends : Nat → Int32) (f_goals : Nat → Int32) (f_withs : Nat → Int32) (v_goalCount : Int32) (x : Int32) (r1 : Int32 × Int32 × Int32 × Int32 × Int32 × Int32 × (Nat → Int32) × (Nat → Int32) × (Nat → Int32)) (r2 : Int32 × Int32 × Int32 × Int32 × Int32 × Int32 × (Nat → Int32) × (Nat → Int32)) (r3 : Int32 × Int32 × Int32 × Int32 × Int32 × Int32 × (Nat → Int32) × (Nat → Int32)) (r4 : Int32 × Int32 × Int32 × Int32 × Int32 × Int32 × (Nat → Int32) × (Nat → Int32)) (r7 : Int32 × Int32 × Int32 × Int32 × Int32 × (Nat → Int32) × (Nat → Int32)) : ST :=

    if r7.2.2.2.1 = 15 then if ((upd f_high x.toNatClampNeg (-r7.2.2.2.2.1)) x.toNatClampNeg) < ((upd f_low x.toNatClampNeg r2.2.2.2.2.2.1) x.toNatClampNeg) then (0, r7.1, r7.2.1, r7.2.2.1, r7.2.2.2.1, r7.2.2.2.2.1, v_depth, v_asked, v_size, v_goalCount, r7.2.2.2.2.2.1, r7.2.2.2.2.2.2, f_code, r1.2.2.2.2.2.2.2.2, upd f_low x.toNatClampNeg r2.2.2.2.2.2.1, upd f_high x.toNatClampNeg (-r7.2.2.2.2.1), f_top, f_begins, f_ends, f_goals, f_withs)
      else if (lg_cmp ((((upd f_high x.toNatClampNeg (-r7.2.2.2.2.1)) x.toNatClampNeg).toInt64) - (((upd f_low x.toNatClampNeg r2.2.2.2.2.2.1) x.toNatClampNeg).toInt64)) 20) < 0 then ((kb_r8 f_text v_signs f_kinds f_values v_tokens v_at v_place v_kind v_value v_depth v_asked f_isTold f_letOf f_code v_size f_column f_low f_high f_top f_begins f_ends f_goals f_withs v_goalCount x r1 r2 r3 r4 r7 (s_Mo_pass f_text v_signs r7.2.2.2.2.2.1 r7.2.2.2.2.2.2 r7.1 r7.2.1 r7.2.2.2.1 r7.2.2.2.2.1)))
      else (0, r7.1, r7.2.1, r7.2.2.1, r7.2.2.2.1, r7.2.2.2.2.1, v_depth, v_asked, v_size, v_goalCount, r7.2.2.2.2.2.1, r7.2.2.2.2.2.2, f_code, r1.2.2.2.2.2.2.2.2, upd f_low x.toNatClampNeg r2.2.2.2.2.2.1, upd f_high x.toNatClampNeg (-r7.2.2.2.2.1), f_top, f_begins, f_ends, f_goals, f_withs)
    else (0, r7.1, r7.2.1, r7.2.2.1, r7.2.2.2.1, r7.2.2.2.2.1, v_depth, v_asked, v_size, v_goalCount, r7.2.2.2.2.2.1, r7.2.2.2.2.2.2, f_code, r1.2.2.2.2.2.2.2.2, upd f_low x.toNatClampNeg r2.2.2.2.2.2.1, upd f_high x.toNatClampNeg (-r7.2.2.2.2.1), f_top, f_begins, f_ends, f_goals, f_withs)
def kb_r6 (f_text : Nat → Int32) (v_signs : Int32) (f_kinds : Nat → Int32) (f_values : Nat → Int32) (v_tokens : Int32) (v_at : Int32) (v_place : Int32) (v_kind : Int32) (v_value : Int32) (v_depth : Int32) (v_asked : Int32) (f_isTold : Nat → Int32) (f_letOf : Nat → Int32) (f_code : Nat → Int32) (v_size : Int32) (f_column : Nat → Int32) (f_low : Nat → Int32) (f_high : Nat → Int32) (f_top : Nat → Int32) (f_begins : Nat → Int32) (f_ends : Nat → Int32) (f_goals : Nat → Int32) (f_withs : Nat → Int32) (v_goalCount : Int32) (x : Int32) (r1 : Int32 × Int32 × Int32 × Int32 × Int32 × Int32 × (Nat → Int32) × (Nat → Int32) × (Nat → Int32)) (r2 : Int32 × Int32 × Int32 × Int32 × Int32 × Int32 × (Nat → Int32) × (Nat → Int32)) (r3 : Int32 × Int32 × Int32 × Int32 × Int32 × Int32 × (Nat → Int32) × (Nat → Int32)) (r4 : Int32 × Int32 × Int32 × Int32 × Int32 × Int32 × (Nat → Int32) × (Nat → Int32)) (r5 : Int32 × Int32 × Int32 × Int32 × Int32 × (Nat → Int32) × (Nat → Int32)) (r6 : WT) : ST :=

      if r6.1 = 0 then (0, r6.2.1, r6.2.2.1, r6.2.2.2.1, r6.2.2.2.2.1, r6.2.2.2.2.2.1, r6.2.2.2.2.2.2.1, r6.2.2.2.2.2.2.2.1, r6.2.2.2.2.2.2.2.2.1, r6.2.2.2.2.2.2.2.2.2.1, r6.2.2.2.2.2.2.2.2.2.2.1, r6.2.2.2.2.2.2.2.2.2.2.2.1, r6.2.2.2.2.2.2.2.2.2.2.2.2.1, r1.2.2.2.2.2.2.2.2, upd f_low x.toNatClampNeg r2.2.2.2.2.2.1, upd f_high x.toNatClampNeg r4.2.2.2.2.2.1, r6.2.2.2.2.2.2.2.2.2.2.2.2.2.1, r6.2.2.2.2.2.2.2.2.2.2.2.2.2.2.1, r6.2.2.2.2.2.2.2.2.2.2.2.2.2.2.2.1, r6.2.2.2.2.2.2.2.2.2.2.2.2.2.2.2.2.1, r6.2.2.2.2.2.2.2.2.2.2.2.2.2.2.2.2.2)
      else (1, r6.2.1, r6.2.2.1, r6.2.2.2.1, r6.2.2.2.2.1, r6.2.2.2.2.2.1, r6.2.2.2.2.2.2.1, r6.2.2.2.2.2.2.2.1, r6.2.2.2.2.2.2.2.2.1, r6.2.2.2.2.2.2.2.2.2.1, r6.2.2.2.2.2.2.2.2.2.2.1, r6.2.2.2.2.2.2.2.2.2.2.2.1, r6.2.2.2.2.2.2.2.2.2.2.2.2.1, r1.2.2.2.2.2.2.2.2, upd f_low x.toNatClampNeg r2.2.2.2.2.2.1, upd f_high x.toNatClampNeg r4.2.2.2.2.2.1, r6.2.2.2.2.2.2.2.2.2.2.2.2.2.1, r6.2.2.2.2.2.2.2.2.2.2.2.2.2.2.1, r6.2.2.2.2.2.2.2.2.2.2.2.2.2.2.2.1, r6.2.2.2.2.2.2.2.2.2.2.2.2.2.2.2.2.1, r6.2.2.2.2.2.2.2.2.2.2.2.2.2.2.2.2.2)
def kb_r5 (f_text : Nat → Int32) (v_signs : Int32) (f_kinds : Nat → Int32) (f_values : Nat → Int32) (v_tokens : Int32) (v_at : Int32) (v_place : Int32) (v_kind : Int32) (v_value : Int32) (v_depth : Int32) (v_asked : Int32) (f_isTold : Nat → Int32) (f_letOf : Nat → Int32) (f_code : Nat → Int32) (v_size : Int32) (f_column : Nat → Int32) (f_low : Nat → Int32) (f_high : Nat → Int32) (f_top : Nat → Int32) (f_begins : Nat → Int32) (f_ends : Nat → Int32) (f_goals : Nat → Int32) (f_withs : Nat → Int32) (v_goalCount : Int32) (x : Int32) (r1 : Int32 × Int32 × Int32 × Int32 × Int32 × Int32 × (Nat → Int32) × (Nat → Int32) × (Nat → Int32)) (r2 : Int32 × Int32 × Int32 × Int32 × Int32 × Int32 × (Nat → Int32) × (Nat → Int32)) (r3 : Int32 × Int32 × Int32 × Int32 × Int32 × Int32 × (Nat → Int32) × (Nat → Int32)) (r4 : Int32 × Int32 × Int32 × Int32 × Int32 × Int32 × (Nat → Int32) × (Nat → Int32)) (r5 : Int32 × Int32 × Int32 × Int32 × Int32 × (Nat → Int32) × (Nat → Int32)) : ST :=

      (kb_r6 f_text v_signs f_kinds f_values v_tokens v_at v_place v_kind v_value v_depth v_asked f_isTold f_letOf f_code v_size f_column f_low f_high f_top f_begins f_ends f_goals f_withs v_goalCount x r1 r2 r3 r4 r5 (s_Mo_readWhere f_text v_signs r5.2.2.2.2.2.1 r5.2.2.2.2.2.2 r5.1 r5.2.1 r5.2.2.1 r5.2.2.2.1 r5.2.2.2.2.1 v_depth v_asked f_isTold f_letOf f_code v_size f_top f_begins f_ends f_goals f_withs v_goalCount x))
def kb_r4 (f_text : Nat → Int32) (v_signs : Int32) (f_kinds : Nat → Int32) (f_values : Nat → Int32) (v_tokens : Int32) (v_at : Int32) (v_place : Int32) (v_kind : Int32) (v_value : Int32) (v_depth : Int32) (v_asked : Int32) (f_isTold : Nat → Int32) (f_letOf : Nat → Int32) (f_code : Nat → Int32) (v_size : Int32) (f_column : Nat → Int32) (f_low : Nat → Int32) (f_high : Nat → Int32) (f_top : Nat → Int32) (f_begins : Nat → Int32) (f_ends : Nat → Int32) (f_goals : Nat → Int32) (f_withs : Nat → Int32) (v_goalCount : Int32) (x : Int32) (r1 : Int32 × Int32 × Int32 × Int32 × Int32 × Int32 × (Nat → Int32) × (Nat → Int32) × (Nat → Int32)) (r2 : Int32 × Int32 × Int32 × Int32 × Int32 × Int32 × (Nat → Int32) × (Nat → Int32)) (r3 : Int32 × Int32 × Int32 × Int32 × Int32 × Int32 × (Nat → Int32) × (Nat → Int32)) (r4 : Int32 × Int32 × Int32 × Int32 × Int32 × Int32 × (Nat → Int32) × (Nat → Int32)) : ST :=

  if r4.1 = 0 then (0, r4.2.1, r4.2.2.1, r4.2.2.2.1, r4.2.2.2.2.1, r4.2.2.2.2.2.1, v_depth, v_asked, v_size, v_goalCount, r4.2.2.2.2.2.2.1, r4.2.2.2.2.2.2.2, f_code, r1.2.2.2.2.2.2.2.2, upd f_low x.toNatClampNeg r2.2.2.2.2.2.1, f_high, f_top, f_begins, f_ends, f_goals, f_withs)
  else if r4.2.2.2.2.1 = 24 then ((kb_r7 f_text v_signs f_kinds f_values v_tokens v_at v_place v_kind v_value v_depth v_asked f_isTold f_letOf f_code v_size f_column f_low f_high f_top f_begins f_ends f_goals f_withs v_goalCount x r1 r2 r3 r4 (s_Mo_pass f_text v_signs r4.2.2.2.2.2.2.1 r4.2.2.2.2.2.2.2 r4.2.1 r4.2.2.1 r4.2.2.2.2.1 r4.2.2.2.2.2.1)))
  else if r4.2.2.2.2.1 = 15 then if ((upd f_high x.toNatClampNeg r4.2.2.2.2.2.1) x.toNatClampNeg) < ((upd f_low x.toNatClampNeg r2.2.2.2.2.2.1) x.toNatClampNeg) then (0, r4.2.1, r4.2.2.1, r4.2.2.2.1, r4.2.2.2.2.1, r4.2.2.2.2.2.1, v_depth, v_asked, v_size, v_goalCount, r4.2.2.2.2.2.2.1, r4.2.2.2.2.2.2.2, f_code, r1.2.2.2.2.2.2.2.2, upd f_low x.toNatClampNeg r2.2.2.2.2.2.1, upd f_high x.toNatClampNeg r4.2.2.2.2.2.1, f_top, f_begins, f_ends, f_goals, f_withs)
    else if (lg_cmp ((((upd f_high x.toNatClampNeg r4.2.2.2.2.2.1) x.toNatClampNeg).toInt64) - (((upd f_low x.toNatClampNeg r2.2.2.2.2.2.1) x.toNatClampNeg).toInt64)) 20) < 0 then ((kb_r5 f_text v_signs f_kinds f_values v_tokens v_at v_place v_kind v_value v_depth v_asked f_isTold f_letOf f_code v_size f_column f_low f_high f_top f_begins f_ends f_goals f_withs v_goalCount x r1 r2 r3 r4 (s_Mo_pass f_text v_signs r4.2.2.2.2.2.2.1 r4.2.2.2.2.2.2.2 r4.2.1 r4.2.2.1 r4.2.2.2.2.1 r4.2.2.2.2.2.1)))
    else (0, r4.2.1, r4.2.2.1, r4.2.2.2.1, r4.2.2.2.2.1, r4.2.2.2.2.2.1, v_depth, v_asked, v_size, v_goalCount, r4.2.2.2.2.2.2.1, r4.2.2.2.2.2.2.2, f_code, r1.2.2.2.2.2.2.2.2, upd f_low x.toNatClampNeg r2.2.2.2.2.2.1, upd f_high x.toNatClampNeg r4.2.2.2.2.2.1, f_top, f_begins, f_ends, f_goals, f_withs)
  else (0, r4.2.1, r4.2.2.1, r4.2.2.2.1, r4.2.2.2.2.1, r4.2.2.2.2.2.1, v_depth, v_asked, v_size, v_goalCount, r4.2.2.2.2.2.2.1, r4.2.2.2.2.2.2.2, f_code, r1.2.2.2.2.2.2.2.2, upd f_low x.toNatClampNeg r2.2.2.2.2.2.1, upd f_high x.toNatClampNeg r4.2.2.2.2.2.1, f_top, f_begins, f_ends, f_goals, f_withs)
def kb_r3 (f_text : Nat → Int32) (v_signs : Int32) (f_kinds : Nat → Int32) (f_values : Nat → Int32) (v_tokens : Int32) (v_at : Int32) (v_place : Int32) (v_kind : Int32) (v_value : Int32) (v_depth : Int32) (v_asked : Int32) (f_isTold : Nat → Int32) (f_letOf : Nat → Int32) (f_code : Nat → Int32) (v_size : Int32) (f_column : Nat → Int32) (f_low : Nat → Int32) (f_high : Nat → Int32) (f_top : Nat → Int32) (f_begins : Nat → Int32) (f_ends : Nat → Int32) (f_goals : Nat → Int32) (f_withs : Nat → Int32) (v_goalCount : Int32) (x : Int32) (r1 : Int32 × Int32 × Int32 × Int32 × Int32 × Int32 × (Nat → Int32) × (Nat → Int32) × (Nat → Int32)) (r2 : Int32 × Int32 × Int32 × Int32 × Int32 × Int32 × (Nat → Int32) × (Nat → Int32)) (r3 : Int32 × Int32 × Int32 × Int32 × Int32 × Int32 × (Nat → Int32) × (Nat → Int32)) : ST :=

  if r3.1 = 0 then (0, r3.2.1, r3.2.2.1, r3.2.2.2.1, r3.2.2.2.2.1, r3.2.2.2.2.2.1, v_depth, v_asked, v_size, v_goalCount, r3.2.2.2.2.2.2.1, r3.2.2.2.2.2.2.2, f_code, r1.2.2.2.2.2.2.2.2, upd f_low x.toNatClampNeg r2.2.2.2.2.2.1, f_high, f_top, f_begins, f_ends, f_goals, f_withs)
  else (kb_r4 f_text v_signs f_kinds f_values v_tokens v_at v_place v_kind v_value v_depth v_asked f_isTold f_letOf f_code v_size f_column f_low f_high f_top f_begins f_ends f_goals f_withs v_goalCount x r1 r2 r3 (s_Mo_passOne f_text v_signs r3.2.2.2.2.2.2.1 r3.2.2.2.2.2.2.2 r3.2.1 r3.2.2.1 r3.2.2.2.1 r3.2.2.2.2.1 r3.2.2.2.2.2.1 7))
def kb_r2 (f_text : Nat → Int32) (v_signs : Int32) (f_kinds : Nat → Int32) (f_values : Nat → Int32) (v_tokens : Int32) (v_at : Int32) (v_place : Int32) (v_kind : Int32) (v_value : Int32) (v_depth : Int32) (v_asked : Int32) (f_isTold : Nat → Int32) (f_letOf : Nat → Int32) (f_code : Nat → Int32) (v_size : Int32) (f_column : Nat → Int32) (f_low : Nat → Int32) (f_high : Nat → Int32) (f_top : Nat → Int32) (f_begins : Nat → Int32) (f_ends : Nat → Int32) (f_goals : Nat → Int32) (f_withs : Nat → Int32) (v_goalCount : Int32) (x : Int32) (r1 : Int32 × Int32 × Int32 × Int32 × Int32 × Int32 × (Nat → Int32) × (Nat → Int32) × (Nat → Int32)) (r2 : Int32 × Int32 × Int32 × Int32 × Int32 × Int32 × (Nat → Int32) × (Nat → Int32)) : ST :=

  if r2.1 = 0 then (0, r2.2.1, r2.2.2.1, r2.2.2.2.1, r2.2.2.2.2.1, r2.2.2.2.2.2.1, v_depth, v_asked, v_size, v_goalCount, r2.2.2.2.2.2.2.1, r2.2.2.2.2.2.2.2, f_code, r1.2.2.2.2.2.2.2.2, f_low, f_high, f_top, f_begins, f_ends, f_goals, f_withs)
  else if r2.2.2.2.2.1 = 24 then ((kb_r10 f_text v_signs f_kinds f_values v_tokens v_at v_place v_kind v_value v_depth v_asked f_isTold f_letOf f_code v_size f_column f_low f_high f_top f_begins f_ends f_goals f_withs v_goalCount x r1 r2 (s_Mo_pass f_text v_signs r2.2.2.2.2.2.2.1 r2.2.2.2.2.2.2.2 r2.2.1 r2.2.2.1 r2.2.2.2.2.1 r2.2.2.2.2.2.1)))
  else (kb_r3 f_text v_signs f_kinds f_values v_tokens v_at v_place v_kind v_value v_depth v_asked f_isTold f_letOf f_code v_size f_column f_low f_high f_top f_begins f_ends f_goals f_withs v_goalCount x r1 r2 (s_Mo_passOne f_text v_signs r2.2.2.2.2.2.2.1 r2.2.2.2.2.2.2.2 r2.2.1 r2.2.2.1 r2.2.2.2.1 r2.2.2.2.2.1 r2.2.2.2.2.2.1 15))
def kb_r1 (f_text : Nat → Int32) (v_signs : Int32) (f_kinds : Nat → Int32) (f_values : Nat → Int32) (v_tokens : Int32) (v_at : Int32) (v_place : Int32) (v_kind : Int32) (v_value : Int32) (v_depth : Int32) (v_asked : Int32) (f_isTold : Nat → Int32) (f_letOf : Nat → Int32) (f_code : Nat → Int32) (v_size : Int32) (f_column : Nat → Int32) (f_low : Nat → Int32) (f_high : Nat → Int32) (f_top : Nat → Int32) (f_begins : Nat → Int32) (f_ends : Nat → Int32) (f_goals : Nat → Int32) (f_withs : Nat → Int32) (v_goalCount : Int32) (x : Int32) (r1 : Int32 × Int32 × Int32 × Int32 × Int32 × Int32 × (Nat → Int32) × (Nat → Int32) × (Nat → Int32)) : ST :=

  if r1.1 = 0 then (0, r1.2.1, r1.2.2.1, r1.2.2.2.1, r1.2.2.2.2.1, r1.2.2.2.2.2.1, v_depth, v_asked, v_size, v_goalCount, r1.2.2.2.2.2.2.1, r1.2.2.2.2.2.2.2.1, f_code, r1.2.2.2.2.2.2.2.2, f_low, f_high, f_top, f_begins, f_ends, f_goals, f_withs)
  else (kb_r2 f_text v_signs f_kinds f_values v_tokens v_at v_place v_kind v_value v_depth v_asked f_isTold f_letOf f_code v_size f_column f_low f_high f_top f_begins f_ends f_goals f_withs v_goalCount x r1 (s_Mo_passOne f_text v_signs r1.2.2.2.2.2.2.1 r1.2.2.2.2.2.2.2.1 r1.2.1 r1.2.2.1 r1.2.2.2.1 r1.2.2.2.2.1 r1.2.2.2.2.2.1 9))
def ob_r17 (f_text : Nat → Int32) (v_signs : Int32) (f_kinds : Nat → Int32) (f_values : Nat → Int32) (v_tokens : Int32) (v_at : Int32) (v_place : Int32) (v_kind : Int32) (v_value : Int32) (v_depth : Int32) (v_asked : Int32) (f_isTold : Nat → Int32) (f_letOf : Nat → Int32) (f_code : Nat → Int32) (v_size : Int32) (f_column : Nat → Int32) (f_low : Nat → Int32) (f_high : Nat → Int32) (f_top : Nat → Int32) (f_begins : Nat → Int32) (f_ends : Nat → Int32) (f_goals : Nat → Int32) (f_withs : Nat → Int32) (v_goalCount : Int32) (x : Int32) (r1 : Int32 × Int32 × Int32 × Int32 × Int32 × Int32 × (Nat → Int32) × (Nat → Int32) × (Nat → Int32)) (r2 : Int32 × Int32 × Int32 × Int32 × Int32 × Int32 × (Nat → Int32) × (Nat → Int32)) (r10 : Int32 × Int32 × Int32 × Int32 × Int32 × (Nat → Int32) × (Nat → Int32)) (r11 : Int32 × Int32 × Int32 × Int32 × Int32 × Int32 × (Nat → Int32) × (Nat → Int32)) (r12 : Int32 × Int32 × Int32 × Int32 × Int32 × Int32 × (Nat → Int32) × (Nat → Int32)) (r15 : Int32 × Int32 × Int32 × Int32 × Int32 × (Nat → Int32) × (Nat → Int32)) (r16 : Int32 × Int32 × Int32 × Int32 × Int32 × (Nat → Int32) × (Nat → Int32)) (r17 : WT) : Prop :=

          (ok_Mo_readWhere f_text v_signs r16.2.2.2.2.2.1 r16.2.2.2.2.2.2 r16.1 r16.2.1 r16.2.2.1 r16.2.2.2.1 r16.2.2.2.2.1 v_asked f_isTold f_letOf f_code v_size f_goals f_withs x) ∧ (if r17.1 = 0 then (True)
          else (True))
def ob_r16 (f_text : Nat → Int32) (v_signs : Int32) (f_kinds : Nat → Int32) (f_values : Nat → Int32) (v_tokens : Int32) (v_at : Int32) (v_place : Int32) (v_kind : Int32) (v_value : Int32) (v_depth : Int32) (v_asked : Int32) (f_isTold : Nat → Int32) (f_letOf : Nat → Int32) (f_code : Nat → Int32) (v_size : Int32) (f_column : Nat → Int32) (f_low : Nat → Int32) (f_high : Nat → Int32) (f_top : Nat → Int32) (f_begins : Nat → Int32) (f_ends : Nat → Int32) (f_goals : Nat → Int32) (f_withs : Nat → Int32) (v_goalCount : Int32) (x : Int32) (r1 : Int32 × Int32 × Int32 × Int32 × Int32 × Int32 × (Nat → Int32) × (Nat → Int32) × (Nat → Int32)) (r2 : Int32 × Int32 × Int32 × Int32 × Int32 × Int32 × (Nat → Int32) × (Nat → Int32)) (r10 : Int32 × Int32 × Int32 × Int32 × Int32 × (Nat → Int32) × (Nat → Int32)) (r11 : Int32 × Int32 × Int32 × Int32 × Int32 × Int32 × (Nat → Int32) × (Nat → Int32)) (r12 : Int32 × Int32 × Int32 × Int32 × Int32 × Int32 × (Nat → Int32) × (Nat → Int32)) (r15 : Int32 × Int32 × Int32 × Int32 × Int32 × (Nat → Int32) × (Nat → Int32)) (r16 : Int32 × Int32 × Int32 × Int32 × Int32 × (Nat → Int32) × (Nat → Int32)) : Prop :=

          (¬ r15.2.2.2.1 = 30) ∧ ((ob_r17 f_text v_signs f_kinds f_values v_tokens v_at v_place v_kind v_value v_depth v_asked f_isTold f_letOf f_code v_size f_column f_low f_high f_top f_begins f_ends f_goals f_withs v_goalCount x r1 r2 r10 r11 r12 r15 r16 (s_Mo_readWhere f_text v_signs r16.2.2.2.2.2.1 r16.2.2.2.2.2.2 r16.1 r16.2.1 r16.2.2.1 r16.2.2.2.1 r16.2.2.2.2.1 v_depth v_asked f_isTold f_letOf f_code v_size f_top f_begins f_ends f_goals f_withs v_goalCount x)))
def ob_r15 (f_text : Nat → Int32) (v_signs : Int32) (f_kinds : Nat → Int32) (f_values : Nat → Int32) (v_tokens : Int32) (v_at : Int32) (v_place : Int32) (v_kind : Int32) (v_value : Int32) (v_depth : Int32) (v_asked : Int32) (f_isTold : Nat → Int32) (f_letOf : Nat → Int32) (f_code : Nat → Int32) (v_size : Int32) (f_column : Nat → Int32) (f_low : Nat → Int32) (f_high : Nat → Int32) (f_top : Nat → Int32) (f_begins : Nat → Int32) (f_ends : Nat → Int32) (f_goals : Nat → Int32) (f_withs : Nat → Int32) (v_goalCount : Int32) (x : Int32) (r1 : Int32 × Int32 × Int32 × Int32 × Int32 × Int32 × (Nat → Int32) × (Nat → Int32) × (Nat → Int32)) (r2 : Int32 × Int32 × Int32 × Int32 × Int32 × Int32 × (Nat → Int32) × (Nat → Int32)) (r10 : Int32 × Int32 × Int32 × Int32 × Int32 × (Nat → Int32) × (Nat → Int32)) (r11 : Int32 × Int32 × Int32 × Int32 × Int32 × Int32 × (Nat → Int32) × (Nat → Int32)) (r12 : Int32 × Int32 × Int32 × Int32 × Int32 × Int32 × (Nat → Int32) × (Nat → Int32)) (r15 : Int32 × Int32 × Int32 × Int32 × Int32 × (Nat → Int32) × (Nat → Int32)) : Prop :=

      (¬ r12.2.2.2.2.1 = 30) ∧ ((vp_in x 12) ∧ (if r15.2.2.2.1 = 15 then ((vp_in x 12) ∧ ((vp_in x 12) ∧ (if ((upd f_high x.toNatClampNeg (-r15.2.2.2.2.1)) x.toNatClampNeg) < ((upd f_low x.toNatClampNeg (-r10.2.2.2.2.1)) x.toNatClampNeg) then (True)
        else ((vp_in x 12) ∧ ((vp_in x 12) ∧ (if (lg_cmp ((((upd f_high x.toNatClampNeg (-r15.2.2.2.2.1)) x.toNatClampNeg).toInt64) - (((upd f_low x.toNatClampNeg (-r10.2.2.2.2.1)) x.toNatClampNeg).toInt64)) 20) < 0 then ((ob_r16 f_text v_signs f_kinds f_values v_tokens v_at v_place v_kind v_value v_depth v_asked f_isTold f_letOf f_code v_size f_column f_low f_high f_top f_begins f_ends f_goals f_withs v_goalCount x r1 r2 r10 r11 r12 r15 (s_Mo_pass f_text v_signs r15.2.2.2.2.2.1 r15.2.2.2.2.2.2 r15.1 r15.2.1 r15.2.2.2.1 r15.2.2.2.2.1)))
        else (True)))))))
      else (True)))
def ob_r14 (f_text : Nat → Int32) (v_signs : Int32) (f_kinds : Nat → Int32) (f_values : Nat → Int32) (v_tokens : Int32) (v_at : Int32) (v_place : Int32) (v_kind : Int32) (v_value : Int32) (v_depth : Int32) (v_asked : Int32) (f_isTold : Nat → Int32) (f_letOf : Nat → Int32) (f_code : Nat → Int32) (v_size : Int32) (f_column : Nat → Int32) (f_low : Nat → Int32) (f_high : Nat → Int32) (f_top : Nat → Int32) (f_begins : Nat → Int32) (f_ends : Nat → Int32) (f_goals : Nat → Int32) (f_withs : Nat → Int32) (v_goalCount : Int32) (x : Int32) (r1 : Int32 × Int32 × Int32 × Int32 × Int32 × Int32 × (Nat → Int32) × (Nat → Int32) × (Nat → Int32)) (r2 : Int32 × Int32 × Int32 × Int32 × Int32 × Int32 × (Nat → Int32) × (Nat → Int32)) (r10 : Int32 × Int32 × Int32 × Int32 × Int32 × (Nat → Int32) × (Nat → Int32)) (r11 : Int32 × Int32 × Int32 × Int32 × Int32 × Int32 × (Nat → Int32) × (Nat → Int32)) (r12 : Int32 × Int32 × Int32 × Int32 × Int32 × Int32 × (Nat → Int32) × (Nat → Int32)) (r13 : Int32 × Int32 × Int32 × Int32 × Int32 × (Nat → Int32) × (Nat → Int32)) (r14 : WT) : Prop :=

        (ok_Mo_readWhere f_text v_signs r13.2.2.2.2.2.1 r13.2.2.2.2.2.2 r13.1 r13.2.1 r13.2.2.1 r13.2.2.2.1 r13.2.2.2.2.1 v_asked f_isTold f_letOf f_code v_size f_goals f_withs x) ∧ (if r14.1 = 0 then (True)
        else (True))
def ob_r13 (f_text : Nat → Int32) (v_signs : Int32) (f_kinds : Nat → Int32) (f_values : Nat → Int32) (v_tokens : Int32) (v_at : Int32) (v_place : Int32) (v_kind : Int32) (v_value : Int32) (v_depth : Int32) (v_asked : Int32) (f_isTold : Nat → Int32) (f_letOf : Nat → Int32) (f_code : Nat → Int32) (v_size : Int32) (f_column : Nat → Int32) (f_low : Nat → Int32) (f_high : Nat → Int32) (f_top : Nat → Int32) (f_begins : Nat → Int32) (f_ends : Nat → Int32) (f_goals : Nat → Int32) (f_withs : Nat → Int32) (v_goalCount : Int32) (x : Int32) (r1 : Int32 × Int32 × Int32 × Int32 × Int32 × Int32 × (Nat → Int32) × (Nat → Int32) × (Nat → Int32)) (r2 : Int32 × Int32 × Int32 × Int32 × Int32 × Int32 × (Nat → Int32) × (Nat → Int32)) (r10 : Int32 × Int32 × Int32 × Int32 × Int32 × (Nat → Int32) × (Nat → Int32)) (r11 : Int32 × Int32 × Int32 × Int32 × Int32 × Int32 × (Nat → Int32) × (Nat → Int32)) (r12 : Int32 × Int32 × Int32 × Int32 × Int32 × Int32 × (Nat → Int32) × (Nat → Int32)) (r13 : Int32 × Int32 × Int32 × Int32 × Int32 × (Nat → Int32) × (Nat → Int32)) : Prop :=

        (¬ r12.2.2.2.2.1 = 30) ∧ ((ob_r14 f_text v_signs f_kinds f_values v_tokens v_at v_place v_kind v_value v_depth v_asked f_isTold f_letOf f_code v_size f_column f_low f_high f_top f_begins f_ends f_goals f_withs v_goalCount x r1 r2 r10 r11 r12 r13 (s_Mo_readWhere f_text v_signs r13.2.2.2.2.2.1 r13.2.2.2.2.2.2 r13.1 r13.2.1 r13.2.2.1 r13.2.2.2.1 r13.2.2.2.2.1 v_depth v_asked f_isTold f_letOf f_code v_size f_top f_begins f_ends f_goals f_withs v_goalCount x)))
def ob_r12 (f_text : Nat → Int32) (v_signs : Int32) (f_kinds : Nat → Int32) (f_values : Nat → Int32) (v_tokens : Int32) (v_at : Int32) (v_place : Int32) (v_kind : Int32) (v_value : Int32) (v_depth : Int32) (v_asked : Int32) (f_isTold : Nat → Int32) (f_letOf : Nat → Int32) (f_code : Nat → Int32) (v_size : Int32) (f_column : Nat → Int32) (f_low : Nat → Int32) (f_high : Nat → Int32) (f_top : Nat → Int32) (f_begins : Nat → Int32) (f_ends : Nat → Int32) (f_goals : Nat → Int32) (f_withs : Nat → Int32) (v_goalCount : Int32) (x : Int32) (r1 : Int32 × Int32 × Int32 × Int32 × Int32 × Int32 × (Nat → Int32) × (Nat → Int32) × (Nat → Int32)) (r2 : Int32 × Int32 × Int32 × Int32 × Int32 × Int32 × (Nat → Int32) × (Nat → Int32)) (r10 : Int32 × Int32 × Int32 × Int32 × Int32 × (Nat → Int32) × (Nat → Int32)) (r11 : Int32 × Int32 × Int32 × Int32 × Int32 × Int32 × (Nat → Int32) × (Nat → Int32)) (r12 : Int32 × Int32 × Int32 × Int32 × Int32 × Int32 × (Nat → Int32) × (Nat → Int32)) : Prop :=

    if r12.1 = 0 then (True)
    else (if r12.2.2.2.2.1 = 24 then ((ob_r15 f_text v_signs f_kinds f_values v_tokens v_at v_place v_kind v_value v_depth v_asked f_isTold f_letOf f_code v_size f_column f_low f_high f_top f_begins f_ends f_goals f_withs v_goalCount x r1 r2 r10 r11 r12 (s_Mo_pass f_text v_signs r12.2.2.2.2.2.2.1 r12.2.2.2.2.2.2.2 r12.2.1 r12.2.2.1 r12.2.2.2.2.1 r12.2.2.2.2.2.1)))
    else ((vp_in x 12) ∧ (if r12.2.2.2.2.1 = 15 then ((vp_in x 12) ∧ ((vp_in x 12) ∧ (if ((upd f_high x.toNatClampNeg r12.2.2.2.2.2.1) x.toNatClampNeg) < ((upd f_low x.toNatClampNeg (-r10.2.2.2.2.1)) x.toNatClampNeg) then (True)
      else ((vp_in x 12) ∧ ((vp_in x 12) ∧ (if (lg_cmp ((((upd f_high x.toNatClampNeg r12.2.2.2.2.2.1) x.toNatClampNeg).toInt64) - (((upd f_low x.toNatClampNeg (-r10.2.2.2.2.1)) x.toNatClampNeg).toInt64)) 20) < 0 then ((ob_r13 f_text v_signs f_kinds f_values v_tokens v_at v_place v_kind v_value v_depth v_asked f_isTold f_letOf f_code v_size f_column f_low f_high f_top f_begins f_ends f_goals f_withs v_goalCount x r1 r2 r10 r11 r12 (s_Mo_pass f_text v_signs r12.2.2.2.2.2.2.1 r12.2.2.2.2.2.2.2 r12.2.1 r12.2.2.1 r12.2.2.2.2.1 r12.2.2.2.2.2.1)))
      else (True)))))))
    else (True))))
def ob_r11 (f_text : Nat → Int32) (v_signs : Int32) (f_kinds : Nat → Int32) (f_values : Nat → Int32) (v_tokens : Int32) (v_at : Int32) (v_place : Int32) (v_kind : Int32) (v_value : Int32) (v_depth : Int32) (v_asked : Int32) (f_isTold : Nat → Int32) (f_letOf : Nat → Int32) (f_code : Nat → Int32) (v_size : Int32) (f_column : Nat → Int32) (f_low : Nat → Int32) (f_high : Nat → Int32) (f_top : Nat → Int32) (f_begins : Nat → Int32) (f_ends : Nat → Int32) (f_goals : Nat → Int32) (f_withs : Nat → Int32) (v_goalCount : Int32) (x : Int32) (r1 : Int32 × Int32 × Int32 × Int32 × Int32 × Int32 × (Nat → Int32) × (Nat → Int32) × (Nat → Int32)) (r2 : Int32 × Int32 × Int32 × Int32 × Int32 × Int32 × (Nat → Int32) × (Nat → Int32)) (r10 : Int32 × Int32 × Int32 × Int32 × Int32 × (Nat → Int32) × (Nat → Int32)) (r11 : Int32 × Int32 × Int32 × Int32 × Int32 × Int32 × (Nat → Int32) × (Nat → Int32)) : Prop :=

    if r11.1 = 0 then (True)
    else ((ob_r12 f_text v_signs f_kinds f_values v_tokens v_at v_place v_kind v_value v_depth v_asked f_isTold f_letOf f_code v_size f_column f_low f_high f_top f_begins f_ends f_goals f_withs v_goalCount x r1 r2 r10 r11 (s_Mo_passOne f_text v_signs r11.2.2.2.2.2.2.1 r11.2.2.2.2.2.2.2 r11.2.1 r11.2.2.1 r11.2.2.2.1 r11.2.2.2.2.1 r11.2.2.2.2.2.1 7)))
def ob_r10 (f_text : Nat → Int32) (v_signs : Int32) (f_kinds : Nat → Int32) (f_values : Nat → Int32) (v_tokens : Int32) (v_at : Int32) (v_place : Int32) (v_kind : Int32) (v_value : Int32) (v_depth : Int32) (v_asked : Int32) (f_isTold : Nat → Int32) (f_letOf : Nat → Int32) (f_code : Nat → Int32) (v_size : Int32) (f_column : Nat → Int32) (f_low : Nat → Int32) (f_high : Nat → Int32) (f_top : Nat → Int32) (f_begins : Nat → Int32) (f_ends : Nat → Int32) (f_goals : Nat → Int32) (f_withs : Nat → Int32) (v_goalCount : Int32) (x : Int32) (r1 : Int32 × Int32 × Int32 × Int32 × Int32 × Int32 × (Nat → Int32) × (Nat → Int32) × (Nat → Int32)) (r2 : Int32 × Int32 × Int32 × Int32 × Int32 × Int32 × (Nat → Int32) × (Nat → Int32)) (r10 : Int32 × Int32 × Int32 × Int32 × Int32 × (Nat → Int32) × (Nat → Int32)) : Prop :=

    (¬ r2.2.2.2.2.1 = 30) ∧ ((vp_in x 12) ∧ ((ob_r11 f_text v_signs f_kinds f_values v_tokens v_at v_place v_kind v_value v_depth v_asked f_isTold f_letOf f_code v_size f_column f_low f_high f_top f_begins f_ends f_goals f_withs v_goalCount x r1 r2 r10 (s_Mo_passOne f_text v_signs r10.2.2.2.2.2.1 r10.2.2.2.2.2.2 r10.1 r10.2.1 r10.2.2.1 r10.2.2.2.1 r10.2.2.2.2.1 15))))
def ob_r9 (f_text : Nat → Int32) (v_signs : Int32) (f_kinds : Nat → Int32) (f_values : Nat → Int32) (v_tokens : Int32) (v_at : Int32) (v_place : Int32) (v_kind : Int32) (v_value : Int32) (v_depth : Int32) (v_asked : Int32) (f_isTold : Nat → Int32) (f_letOf : Nat → Int32) (f_code : Nat → Int32) (v_size : Int32) (f_column : Nat → Int32) (f_low : Nat → Int32) (f_high : Nat → Int32) (f_top : Nat → Int32) (f_begins : Nat → Int32) (f_ends : Nat → Int32) (f_goals : Nat → Int32) (f_withs : Nat → Int32) (v_goalCount : Int32) (x : Int32) (r1 : Int32 × Int32 × Int32 × Int32 × Int32 × Int32 × (Nat → Int32) × (Nat → Int32) × (Nat → Int32)) (r2 : Int32 × Int32 × Int32 × Int32 × Int32 × Int32 × (Nat → Int32) × (Nat → Int32)) (r3 : Int32 × Int32 × Int32 × Int32 × Int32 × Int32 × (Nat → Int32) × (Nat → Int32)) (r4 : Int32 × Int32 × Int32 × Int32 × Int32 × Int32 × (Nat → Int32) × (Nat → Int32)) (r7 : Int32 × Int32 × Int32 × Int32 × Int32 × (Nat → Int32) × (Nat → Int32)) (r8 : Int32 × Int32 × Int32 × Int32 × Int32 × (Nat → Int32) × (Nat → Int32)) (r9 : WT) : Prop :=

        (ok_Mo_readWhere f_text v_signs r8.2.2.2.2.2.1 r8.2.2.2.2.2.2 r8.1 r8.2.1 r8.2.2.1 r8.2.2.2.1 r8.2.2.2.2.1 v_asked f_isTold f_letOf f_code v_size f_goals f_withs x) ∧ (if r9.1 = 0 then (True)
        else (True))
def ob_r8 (f_text : Nat → Int32) (v_signs : Int32) (f_kinds : Nat → Int32) (f_values : Nat → Int32) (v_tokens : Int32) (v_at : Int32) (v_place : Int32) (v_kind : Int32) (v_value : Int32) (v_depth : Int32) (v_asked : Int32) (f_isTold : Nat → Int32) (f_letOf : Nat → Int32) (f_code : Nat → Int32) (v_size : Int32) (f_column : Nat → Int32) (f_low : Nat → Int32) (f_high : Nat → Int32) (f_top : Nat → Int32) (f_begins : Nat → Int32) (f_ends : Nat → Int32) (f_goals : Nat → Int32) (f_withs : Nat → Int32) (v_goalCount : Int32) (x : Int32) (r1 : Int32 × Int32 × Int32 × Int32 × Int32 × Int32 × (Nat → Int32) × (Nat → Int32) × (Nat → Int32)) (r2 : Int32 × Int32 × Int32 × Int32 × Int32 × Int32 × (Nat → Int32) × (Nat → Int32)) (r3 : Int32 × Int32 × Int32 × Int32 × Int32 × Int32 × (Nat → Int32) × (Nat → Int32)) (r4 : Int32 × Int32 × Int32 × Int32 × Int32 × Int32 × (Nat → Int32) × (Nat → Int32)) (r7 : Int32 × Int32 × Int32 × Int32 × Int32 × (Nat → Int32) × (Nat → Int32)) (r8 : Int32 × Int32 × Int32 × Int32 × Int32 × (Nat → Int32) × (Nat → Int32)) : Prop :=

        (¬ r7.2.2.2.1 = 30) ∧ ((ob_r9 f_text v_signs f_kinds f_values v_tokens v_at v_place v_kind v_value v_depth v_asked f_isTold f_letOf f_code v_size f_column f_low f_high f_top f_begins f_ends f_goals f_withs v_goalCount x r1 r2 r3 r4 r7 r8 (s_Mo_readWhere f_text v_signs r8.2.2.2.2.2.1 r8.2.2.2.2.2.2 r8.1 r8.2.1 r8.2.2.1 r8.2.2.2.1 r8.2.2.2.2.1 v_depth v_asked f_isTold f_letOf f_code v_size f_top f_begins f_ends f_goals f_withs v_goalCount x)))
def ob_r7 (f_text : Nat → Int32) (v_signs : Int32) (f_kinds : Nat → Int32) (f_values : Nat → Int32) (v_tokens : Int32) (v_at : Int32) (v_place : Int32) (v_kind : Int32) (v_value : Int32) (v_depth : Int32) (v_asked : Int32) (f_isTold : Nat → Int32) (f_letOf : Nat → Int32) (f_code : Nat → Int32) (v_size : Int32) (f_column : Nat → Int32) (f_low : Nat → Int32) (f_high : Nat → Int32) (f_top : Nat → Int32) (f_begins : Nat → Int32) (f_ends : Nat → Int32) (f_goals : Nat → Int32) (f_withs : Nat → Int32) (v_goalCount : Int32) (x : Int32) (r1 : Int32 × Int32 × Int32 × Int32 × Int32 × Int32 × (Nat → Int32) × (Nat → Int32) × (Nat → Int32)) (r2 : Int32 × Int32 × Int32 × Int32 × Int32 × Int32 × (Nat → Int32) × (Nat → Int32)) (r3 : Int32 × Int32 × Int32 × Int32 × Int32 × Int32 × (Nat → Int32) × (Nat → Int32)) (r4 : Int32 × Int32 × Int32 × Int32 × Int32 × Int32 × (Nat → Int32) × (Nat → Int32)) (r7 : Int32 × Int32 × Int32 × Int32 × Int32 × (Nat → Int32) × (Nat → Int32)) : Prop :=

    (¬ r4.2.2.2.2.1 = 30) ∧ ((vp_in x 12) ∧ (if r7.2.2.2.1 = 15 then ((vp_in x 12) ∧ ((vp_in x 12) ∧ (if ((upd f_high x.toNatClampNeg (-r7.2.2.2.2.1)) x.toNatClampNeg) < ((upd f_low x.toNatClampNeg r2.2.2.2.2.2.1) x.toNatClampNeg) then (True)
      else ((vp_in x 12) ∧ ((vp_in x 12) ∧ (if (lg_cmp ((((upd f_high x.toNatClampNeg (-r7.2.2.2.2.1)) x.toNatClampNeg).toInt64) - (((upd f_low x.toNatClampNeg r2.2.2.2.2.2.1) x.toNatClampNeg).toInt64)) 20) < 0 then ((ob_r8 f_text v_signs f_kinds f_values v_tokens v_at v_place v_kind v_value v_depth v_asked f_isTold f_letOf f_code v_size f_column f_low f_high f_top f_begins f_ends f_goals f_withs v_goalCount x r1 r2 r3 r4 r7 (s_Mo_pass f_text v_signs r7.2.2.2.2.2.1 r7.2.2.2.2.2.2 r7.1 r7.2.1 r7.2.2.2.1 r7.2.2.2.2.1)))
      else (True)))))))
    else (True)))
def ob_r6 (f_text : Nat → Int32) (v_signs : Int32) (f_kinds : Nat → Int32) (f_values : Nat → Int32) (v_tokens : Int32) (v_at : Int32) (v_place : Int32) (v_kind : Int32) (v_value : Int32) (v_depth : Int32) (v_asked : Int32) (f_isTold : Nat → Int32) (f_letOf : Nat → Int32) (f_code : Nat → Int32) (v_size : Int32) (f_column : Nat → Int32) (f_low : Nat → Int32) (f_high : Nat → Int32) (f_top : Nat → Int32) (f_begins : Nat → Int32) (f_ends : Nat → Int32) (f_goals : Nat → Int32) (f_withs : Nat → Int32) (v_goalCount : Int32) (x : Int32) (r1 : Int32 × Int32 × Int32 × Int32 × Int32 × Int32 × (Nat → Int32) × (Nat → Int32) × (Nat → Int32)) (r2 : Int32 × Int32 × Int32 × Int32 × Int32 × Int32 × (Nat → Int32) × (Nat → Int32)) (r3 : Int32 × Int32 × Int32 × Int32 × Int32 × Int32 × (Nat → Int32) × (Nat → Int32)) (r4 : Int32 × Int32 × Int32 × Int32 × Int32 × Int32 × (Nat → Int32) × (Nat → Int32)) (r5 : Int32 × Int32 × Int32 × Int32 × Int32 × (Nat → Int32) × (Nat → Int32)) (r6 : WT) : Prop :=

      (ok_Mo_readWhere f_text v_signs r5.2.2.2.2.2.1 r5.2.2.2.2.2.2 r5.1 r5.2.1 r5.2.2.1 r5.2.2.2.1 r5.2.2.2.2.1 v_asked f_isTold f_letOf f_code v_size f_goals f_withs x) ∧ (if r6.1 = 0 then (True)
      else (True))
def ob_r5 (f_text : Nat → Int32) (v_signs : Int32) (f_kinds : Nat → Int32) (f_values : Nat → Int32) (v_tokens : Int32) (v_at : Int32) (v_place : Int32) (v_kind : Int32) (v_value : Int32) (v_depth : Int32) (v_asked : Int32) (f_isTold : Nat → Int32) (f_letOf : Nat → Int32) (f_code : Nat → Int32) (v_size : Int32) (f_column : Nat → Int32) (f_low : Nat → Int32) (f_high : Nat → Int32) (f_top : Nat → Int32) (f_begins : Nat → Int32) (f_ends : Nat → Int32) (f_goals : Nat → Int32) (f_withs : Nat → Int32) (v_goalCount : Int32) (x : Int32) (r1 : Int32 × Int32 × Int32 × Int32 × Int32 × Int32 × (Nat → Int32) × (Nat → Int32) × (Nat → Int32)) (r2 : Int32 × Int32 × Int32 × Int32 × Int32 × Int32 × (Nat → Int32) × (Nat → Int32)) (r3 : Int32 × Int32 × Int32 × Int32 × Int32 × Int32 × (Nat → Int32) × (Nat → Int32)) (r4 : Int32 × Int32 × Int32 × Int32 × Int32 × Int32 × (Nat → Int32) × (Nat → Int32)) (r5 : Int32 × Int32 × Int32 × Int32 × Int32 × (Nat → Int32) × (Nat → Int32)) : Prop :=

      (¬ r4.2.2.2.2.1 = 30) ∧ ((ob_r6 f_text v_signs f_kinds f_values v_tokens v_at v_place v_kind v_value v_depth v_asked f_isTold f_letOf f_code v_size f_column f_low f_high f_top f_begins f_ends f_goals f_withs v_goalCount x r1 r2 r3 r4 r5 (s_Mo_readWhere f_text v_signs r5.2.2.2.2.2.1 r5.2.2.2.2.2.2 r5.1 r5.2.1 r5.2.2.1 r5.2.2.2.1 r5.2.2.2.2.1 v_depth v_asked f_isTold f_letOf f_code v_size f_top f_begins f_ends f_goals f_withs v_goalCount x)))
def ob_r4 (f_text : Nat → Int32) (v_signs : Int32) (f_kinds : Nat → Int32) (f_values : Nat → Int32) (v_tokens : Int32) (v_at : Int32) (v_place : Int32) (v_kind : Int32) (v_value : Int32) (v_depth : Int32) (v_asked : Int32) (f_isTold : Nat → Int32) (f_letOf : Nat → Int32) (f_code : Nat → Int32) (v_size : Int32) (f_column : Nat → Int32) (f_low : Nat → Int32) (f_high : Nat → Int32) (f_top : Nat → Int32) (f_begins : Nat → Int32) (f_ends : Nat → Int32) (f_goals : Nat → Int32) (f_withs : Nat → Int32) (v_goalCount : Int32) (x : Int32) (r1 : Int32 × Int32 × Int32 × Int32 × Int32 × Int32 × (Nat → Int32) × (Nat → Int32) × (Nat → Int32)) (r2 : Int32 × Int32 × Int32 × Int32 × Int32 × Int32 × (Nat → Int32) × (Nat → Int32)) (r3 : Int32 × Int32 × Int32 × Int32 × Int32 × Int32 × (Nat → Int32) × (Nat → Int32)) (r4 : Int32 × Int32 × Int32 × Int32 × Int32 × Int32 × (Nat → Int32) × (Nat → Int32)) : Prop :=

  if r4.1 = 0 then (True)
  else (if r4.2.2.2.2.1 = 24 then ((ob_r7 f_text v_signs f_kinds f_values v_tokens v_at v_place v_kind v_value v_depth v_asked f_isTold f_letOf f_code v_size f_column f_low f_high f_top f_begins f_ends f_goals f_withs v_goalCount x r1 r2 r3 r4 (s_Mo_pass f_text v_signs r4.2.2.2.2.2.2.1 r4.2.2.2.2.2.2.2 r4.2.1 r4.2.2.1 r4.2.2.2.2.1 r4.2.2.2.2.2.1)))
  else ((vp_in x 12) ∧ (if r4.2.2.2.2.1 = 15 then ((vp_in x 12) ∧ ((vp_in x 12) ∧ (if ((upd f_high x.toNatClampNeg r4.2.2.2.2.2.1) x.toNatClampNeg) < ((upd f_low x.toNatClampNeg r2.2.2.2.2.2.1) x.toNatClampNeg) then (True)
    else ((vp_in x 12) ∧ ((vp_in x 12) ∧ (if (lg_cmp ((((upd f_high x.toNatClampNeg r4.2.2.2.2.2.1) x.toNatClampNeg).toInt64) - (((upd f_low x.toNatClampNeg r2.2.2.2.2.2.1) x.toNatClampNeg).toInt64)) 20) < 0 then ((ob_r5 f_text v_signs f_kinds f_values v_tokens v_at v_place v_kind v_value v_depth v_asked f_isTold f_letOf f_code v_size f_column f_low f_high f_top f_begins f_ends f_goals f_withs v_goalCount x r1 r2 r3 r4 (s_Mo_pass f_text v_signs r4.2.2.2.2.2.2.1 r4.2.2.2.2.2.2.2 r4.2.1 r4.2.2.1 r4.2.2.2.2.1 r4.2.2.2.2.2.1)))
    else (True)))))))
  else (True))))
def ob_r3 (f_text : Nat → Int32) (v_signs : Int32) (f_kinds : Nat → Int32) (f_values : Nat → Int32) (v_tokens : Int32) (v_at : Int32) (v_place : Int32) (v_kind : Int32) (v_value : Int32) (v_depth : Int32) (v_asked : Int32) (f_isTold : Nat → Int32) (f_letOf : Nat → Int32) (f_code : Nat → Int32) (v_size : Int32) (f_column : Nat → Int32) (f_low : Nat → Int32) (f_high : Nat → Int32) (f_top : Nat → Int32) (f_begins : Nat → Int32) (f_ends : Nat → Int32) (f_goals : Nat → Int32) (f_withs : Nat → Int32) (v_goalCount : Int32) (x : Int32) (r1 : Int32 × Int32 × Int32 × Int32 × Int32 × Int32 × (Nat → Int32) × (Nat → Int32) × (Nat → Int32)) (r2 : Int32 × Int32 × Int32 × Int32 × Int32 × Int32 × (Nat → Int32) × (Nat → Int32)) (r3 : Int32 × Int32 × Int32 × Int32 × Int32 × Int32 × (Nat → Int32) × (Nat → Int32)) : Prop :=

  if r3.1 = 0 then (True)
  else ((ob_r4 f_text v_signs f_kinds f_values v_tokens v_at v_place v_kind v_value v_depth v_asked f_isTold f_letOf f_code v_size f_column f_low f_high f_top f_begins f_ends f_goals f_withs v_goalCount x r1 r2 r3 (s_Mo_passOne f_text v_signs r3.2.2.2.2.2.2.1 r3.2.2.2.2.2.2.2 r3.2.1 r3.2.2.1 r3.2.2.2.1 r3.2.2.2.2.1 r3.2.2.2.2.2.1 7)))
def ob_r2 (f_text : Nat → Int32) (v_signs : Int32) (f_kinds : Nat → Int32) (f_values : Nat → Int32) (v_tokens : Int32) (v_at : Int32) (v_place : Int32) (v_kind : Int32) (v_value : Int32) (v_depth : Int32) (v_asked : Int32) (f_isTold : Nat → Int32) (f_letOf : Nat → Int32) (f_code : Nat → Int32) (v_size : Int32) (f_column : Nat → Int32) (f_low : Nat → Int32) (f_high : Nat → Int32) (f_top : Nat → Int32) (f_begins : Nat → Int32) (f_ends : Nat → Int32) (f_goals : Nat → Int32) (f_withs : Nat → Int32) (v_goalCount : Int32) (x : Int32) (r1 : Int32 × Int32 × Int32 × Int32 × Int32 × Int32 × (Nat → Int32) × (Nat → Int32) × (Nat → Int32)) (r2 : Int32 × Int32 × Int32 × Int32 × Int32 × Int32 × (Nat → Int32) × (Nat → Int32)) : Prop :=

  (PI v_signs r1.2.2.1 r1.2.1 r1.2.2.2.2.1 r1.2.2.2.2.2.1) ∧ (if r2.1 = 0 then (True)
  else (if r2.2.2.2.2.1 = 24 then ((ob_r10 f_text v_signs f_kinds f_values v_tokens v_at v_place v_kind v_value v_depth v_asked f_isTold f_letOf f_code v_size f_column f_low f_high f_top f_begins f_ends f_goals f_withs v_goalCount x r1 r2 (s_Mo_pass f_text v_signs r2.2.2.2.2.2.2.1 r2.2.2.2.2.2.2.2 r2.2.1 r2.2.2.1 r2.2.2.2.2.1 r2.2.2.2.2.2.1)))
  else ((vp_in x 12) ∧ ((ob_r3 f_text v_signs f_kinds f_values v_tokens v_at v_place v_kind v_value v_depth v_asked f_isTold f_letOf f_code v_size f_column f_low f_high f_top f_begins f_ends f_goals f_withs v_goalCount x r1 r2 (s_Mo_passOne f_text v_signs r2.2.2.2.2.2.2.1 r2.2.2.2.2.2.2.2 r2.2.1 r2.2.2.1 r2.2.2.2.1 r2.2.2.2.2.1 r2.2.2.2.2.2.1 15))))))
def ob_r1 (f_text : Nat → Int32) (v_signs : Int32) (f_kinds : Nat → Int32) (f_values : Nat → Int32) (v_tokens : Int32) (v_at : Int32) (v_place : Int32) (v_kind : Int32) (v_value : Int32) (v_depth : Int32) (v_asked : Int32) (f_isTold : Nat → Int32) (f_letOf : Nat → Int32) (f_code : Nat → Int32) (v_size : Int32) (f_column : Nat → Int32) (f_low : Nat → Int32) (f_high : Nat → Int32) (f_top : Nat → Int32) (f_begins : Nat → Int32) (f_ends : Nat → Int32) (f_goals : Nat → Int32) (f_withs : Nat → Int32) (v_goalCount : Int32) (x : Int32) (r1 : Int32 × Int32 × Int32 × Int32 × Int32 × Int32 × (Nat → Int32) × (Nat → Int32) × (Nat → Int32)) : Prop :=

  (ok_Mo_readColumn f_text v_signs f_kinds f_values v_tokens v_at v_place v_kind v_value x) ∧ (if r1.1 = 0 then (True)
  else ((ob_r2 f_text v_signs f_kinds f_values v_tokens v_at v_place v_kind v_value v_depth v_asked f_isTold f_letOf f_code v_size f_column f_low f_high f_top f_begins f_ends f_goals f_withs v_goalCount x r1 (s_Mo_passOne f_text v_signs r1.2.2.2.2.2.2.1 r1.2.2.2.2.2.2.2.1 r1.2.1 r1.2.2.1 r1.2.2.2.1 r1.2.2.2.2.1 r1.2.2.2.2.2.1 9))))
theorem bins_k {f_text : Nat → Int32} {v_signs : Int32} {f_kinds : Nat → Int32} {f_values : Nat → Int32} {v_tokens : Int32} {v_at : Int32} {v_place : Int32} {v_kind : Int32} {v_value : Int32} {v_depth : Int32} {v_asked : Int32} {f_isTold : Nat → Int32} {f_letOf : Nat → Int32} {f_code : Nat → Int32} {v_size : Int32} {f_column : Nat → Int32} {f_low : Nat → Int32} {f_high : Nat → Int32} {f_top : Nat → Int32} {f_begins : Nat → Int32} {f_ends : Nat → Int32} {f_goals : Nat → Int32} {f_withs : Nat → Int32} {v_goalCount : Int32} {x : Int32} : s_Mo_readBins f_text v_signs f_kinds f_values v_tokens v_at v_place v_kind v_value v_depth v_asked f_isTold f_letOf f_code v_size f_column f_low f_high f_top f_begins f_ends f_goals f_withs v_goalCount x = (kb_r1 f_text v_signs f_kinds f_values v_tokens v_at v_place v_kind v_value v_depth v_asked f_isTold f_letOf f_code v_size f_column f_low f_high f_top f_begins f_ends f_goals f_withs v_goalCount x (s_Mo_readColumn f_text v_signs f_kinds f_values v_tokens v_at v_place v_kind v_value f_column x)) := rfl
theorem bins_o {f_text : Nat → Int32} {v_signs : Int32} {f_kinds : Nat → Int32} {f_values : Nat → Int32} {v_tokens : Int32} {v_at : Int32} {v_place : Int32} {v_kind : Int32} {v_value : Int32} {v_depth : Int32} {v_asked : Int32} {f_isTold : Nat → Int32} {f_letOf : Nat → Int32} {f_code : Nat → Int32} {v_size : Int32} {f_column : Nat → Int32} {f_low : Nat → Int32} {f_high : Nat → Int32} {f_top : Nat → Int32} {f_begins : Nat → Int32} {f_ends : Nat → Int32} {f_goals : Nat → Int32} {f_withs : Nat → Int32} {v_goalCount : Int32} {x : Int32} : ok_Mo_readBins f_text v_signs f_kinds f_values v_tokens v_at v_place v_kind v_value v_depth v_asked f_isTold f_letOf f_code v_size f_column f_low f_high f_top f_begins f_ends f_goals f_withs v_goalCount x = ((ob_r1 f_text v_signs f_kinds f_values v_tokens v_at v_place v_kind v_value v_depth v_asked f_isTold f_letOf f_code v_size f_column f_low f_high f_top f_begins f_ends f_goals f_withs v_goalCount x (s_Mo_readColumn f_text v_signs f_kinds f_values v_tokens v_at v_place v_kind v_value f_column x))) := rfl
set_option maxHeartbeats 40000000 in
set_option maxRecDepth 100000 in
theorem bins_top (L : LexR g K V P N n e pos) (R : LetR LO told lo Lc) {m : MS} {t0 j cs nq : Nat} {S W co lw hi tp bg en : Nat → Int32} {Q : Nat → Nat → Int32} (hq : nq < 12) (hK : K t0 = nI 8) (hat : At g K V N n e m (t0 + 1)) (hj : m.js = nI j) (hj2 : j ≤ 150) (hs : m.sz = nI (2 * cs)) (hc : cs ≤ t0) :
    ok_Par_asks K V S W (nI cs) Q (nI nq) LO (nI t0) (nI j) ∧ ok_Mo_readBins g (nI N) m.ks m.vs m.tk m.at_ m.pl m.kd m.vl m.dp m.js told lo m.co m.sz co lw hi tp bg en m.go m.wi m.gc (nI nq) ∧
    ((∃ (c t w' : Nat) (X Y : Int32) (m' : MS) (w : WT), c < 6 ∧ w' < 20 ∧ Y.toInt = X.toInt + w' ∧ t0 + 1 ≤ t ∧ m'.co = m.co ∧ s_Mo_readBins g (nI N) m.ks m.vs m.tk m.at_ m.pl m.kd m.vl m.dp m.js told lo m.co m.sz co lw hi tp bg en m.go m.wi m.gc (nI nq) = suT w (upd co nq (nI c)) (upd lw nq X) (upd hi nq Y) ∧ QsR g K V P N n e Lc m' t cs nq S W Q (fun x y z => qF 2 (nI c) X Y 1 x y z) tp bg en (s_Par_asks K V S W (nI cs) Q (nI nq) LO (nI t0) (nI j)) w) ∨
     (∃ t' : Nat, (s_Par_asks K V S W (nI cs) Q (nI nq) LO (nI t0) (nI j)).1 = 0 ∧ (s_Par_asks K V S W (nI cs) Q (nI nq) LO (nI t0) (nI j)).2.1 = nI t' ∧ t' ≤ n ∧ (s_Mo_readBins g (nI N) m.ks m.vs m.tk m.at_ m.pl m.kd m.vl m.dp m.js told lo m.co m.sz co lw hi tp bg en m.go m.wi m.gc (nI nq)).1 = 0 ∧ (s_Mo_readBins g (nI N) m.ks m.vs m.tk m.at_ m.pl m.kd m.vl m.dp m.js told lo m.co m.sz co lw hi tp bg en m.go m.wi m.gc (nI nq)).2.2.2.1 = P t')) := by
  have hn := L.le
  have hN := L.hN
  have ht := hat.1
  have hin : vp_in (nI nq) 12 := vp_in_nI hq (by decide)
  have hcl : (nI nq).toNatClampNeg = nq := nI_clamp (by omega)
  have hpi := hat.pi L
  have e6 : s_Par_take K (nI t0) 6 = (0, nI t0) := (par_take (show t0 ≤ 2000 by omega) hK (by decide) (show 6 < 31 by decide)).trans (if_neg (by decide))
  have e7 : s_Par_take K (nI t0) 7 = (0, nI t0) := (par_take (show t0 ≤ 2000 by omega) hK (by decide) (show 7 < 31 by decide)).trans (if_neg (by decide))
  have e8 : s_Par_take K (nI t0) 8 = (1, nI (t0 + 1)) := (par_take (show t0 ≤ 2000 by omega) hK (by decide) (show 8 < 31 by decide)).trans (if_pos rfl)
  have hhead : ∀ q0 q1 q2 q3 q4 q5 q6 q7 : Int32, s_Par_head K V (nI t0) q0 q1 q2 q3 q4 q5 q6 q7 = (if (s_Par_take K (nI (t0 + 1)) 3).1 = 0 then (0, (s_Par_take K (nI (t0 + 1)) 3).2, 2, V (t0 + 1), 0, 0, 1, 0, 0, 0) else if (s_Par_range K V (s_Par_take K (nI (t0 + 1)) 3).2 0 0).1 = 0 then (0, (s_Par_range K V (s_Par_take K (nI (t0 + 1)) 3).2 0 0).2.1, 2, V (t0 + 1), (s_Par_range K V (s_Par_take K (nI (t0 + 1)) 3).2 0 0).2.2.1, (s_Par_range K V (s_Par_take K (nI (t0 + 1)) 3).2 0 0).2.2.2, 1, 0, 0, 0) else (1, (s_Par_range K V (s_Par_take K (nI (t0 + 1)) 3).2 0 0).2.1, 2, V (t0 + 1), (s_Par_range K V (s_Par_take K (nI (t0 + 1)) 3).2 0 0).2.2.1, (s_Par_range K V (s_Par_take K (nI (t0 + 1)) 3).2 0 0).2.2.2, 1, 0, 0, 0)) := fun q0 q1 q2 q3 q4 q5 q6 q7 => by
    unfold s_Par_head
    rw [e6]
    dsimp only
    rw [if_pos (show (0 : Int32) = 0 from rfl), e7]
    dsimp only
    rw [if_pos (show (0 : Int32) = 0 from rfl), e8]
    dsimp only
    rw [if10, col_eq (by omega)]
  rcases take_sim L hat 3 3 13 (by decide) (by decide) rfl rfl with ⟨a1, a2, a3, a4, a5, ⟨c, a6, a8⟩, m1, n1, a7⟩ | ⟨a1, a2, a3⟩
  case inr =>
    obtain ⟨f1, f2, f3⟩ := asks_hfail (LO := LO) (S := S) (W := W) (Q := Q) (t' := t0 + 1) (j := j) (cs := cs) hq (show t0 ≤ 2000 by omega) (by rw [hhead, a1]; rfl) (by rw [hhead, a1]; rfl)
    obtain ⟨k, -, -, -, z4, -, -⟩ := hat.view L
    have ecol : s_Mo_readColumn g (nI N) m.ks m.vs m.tk m.at_ m.pl m.kd m.vl co (nI nq) = (0, m.tk, m.at_, m.pl, m.kd, m.vl, m.ks, m.vs, upd co nq m.vl) := by
      unfold s_Mo_readColumn
      rw [one_n a2, hcl]
    refine ⟨f1, ?_, Or.inr ⟨t0 + 1, f2, f3, ht, ?_⟩⟩
    · rw [bins_o, ecol]
      unfold ob_r1
      dsimp only
      rw [if_pos (show (0 : Int32) = 0 from rfl)]
      exact ⟨⟨hin, hpi, trivial⟩, trivial⟩
    · rw [bins_k, ecol]
      unfold kb_r1
      dsimp only
      rw [if_pos (show (0 : Int32) = 0 from rfl)]
      exact ⟨rfl, z4⟩
  have hc6 : c < 6 := a6.2.2.2.1 rfl
  have hpi1 := a7.pi L
  have hfail : ∀ t' : Nat, (s_Par_range K V (nI (t0 + 1 + 1)) 0 0).1 = 0 → (s_Par_range K V (nI (t0 + 1 + 1)) 0 0).2.1 = nI t' → ok_Par_asks K V S W (nI cs) Q (nI nq) LO (nI t0) (nI j) ∧ (s_Par_asks K V S W (nI cs) Q (nI nq) LO (nI t0) (nI j)).1 = 0 ∧ (s_Par_asks K V S W (nI cs) Q (nI nq) LO (nI t0) (nI j)).2.1 = nI t' := fun t' h1 h2 => asks_hfail hq (show t0 ≤ 2000 by omega) (by simp only [hhead, a1, if10, if_pos h1]) (by simp only [hhead, a1, if10, if_pos h1]; exact h2)
  have hgood : ∀ (t : Nat) (X Y : Int32), s_Par_range K V (nI (t0 + 1 + 1)) 0 0 = (1, nI t, X, Y) → ∀ q0 q1 q2 q3 q4 q5 q6 q7 : Int32, s_Par_head K V (nI t0) q0 q1 q2 q3 q4 q5 q6 q7 = (1, nI t, 2, nI c, X, Y, 1, 0, 0, 0) := fun t X Y h q0 q1 q2 q3 q4 q5 q6 q7 => by
    simp only [hhead, a1, if10, h, a8]
  have ecol : s_Mo_readColumn g (nI N) m.ks m.vs m.tk m.at_ m.pl m.kd m.vl co (nI nq) = (1, m1.tk, m1.at_, m1.pl, m1.kd, m1.vl, m1.ks, m1.vs, upd co nq (nI c)) := by
    unfold s_Mo_readColumn
    rw [n1.one a2, hcl, a5, a8]
  have ocol : ok_Mo_readColumn g (nI N) m.ks m.vs m.tk m.at_ m.pl m.kd m.vl (nI nq) := ⟨hin, hpi, trivial⟩
  have hS := bins_k (f_text := g) (v_signs := nI N) (f_kinds := m.ks) (f_values := m.vs) (v_tokens := m.tk) (v_at := m.at_) (v_place := m.pl) (v_kind := m.kd) (v_value := m.vl) (v_depth := m.dp) (v_asked := m.js) (f_isTold := told) (f_letOf := lo) (f_code := m.co) (v_size := m.sz) (f_column := co) (f_low := lw) (f_high := hi) (f_top := tp) (f_begins := bg) (f_ends := en) (f_goals := m.go) (f_withs := m.wi) (v_goalCount := m.gc) (x := nI nq)
  have hO := Eq.mpr (bins_o (f_text := g) (v_signs := nI N) (f_kinds := m.ks) (f_values := m.vs) (v_tokens := m.tk) (v_at := m.at_) (v_place := m.pl) (v_kind := m.kd) (v_value := m.vl) (v_depth := m.dp) (v_asked := m.js) (f_isTold := told) (f_letOf := lo) (f_code := m.co) (v_size := m.sz) (f_column := co) (f_low := lw) (f_high := hi) (f_top := tp) (f_begins := bg) (f_ends := en) (f_goals := m.go) (f_withs := m.wi) (v_goalCount := m.gc) (x := nI nq))
  rw [ecol] at hS hO
  unfold kb_r1 at hS
  unfold ob_r1 at hO
  dsimp only at hS hO
  rw [if10] at hS hO
  replace hO := fun z => hO ⟨ocol, z⟩
  generalize hX : s_Mo_readBins g (nI N) m.ks m.vs m.tk m.at_ m.pl m.kd m.vl m.dp m.js told lo m.co m.sz co lw hi tp bg en m.go m.wi m.gc (nI nq) = X at hS ⊢
  rcases take_sim L a7 9 9 9 (by decide) (by decide) rfl rfl with ⟨b1, b2, b3, b4, b5, -, m2, n2, b7⟩ | ⟨b1, b2, b3⟩
  case inr =>
    obtain ⟨f1, f2, f3⟩ := hfail (t0 + 1 + 1) (by unfold s_Par_range; simp only [b1, if_true]) (by unfold s_Par_range; simp only [b1, if_true])
    obtain ⟨k, -, -, -, z4, -, -⟩ := a7.view L
    rw [one_n b2] at hS hO
    unfold kb_r2 at hS
    unfold ob_r2 at hO
    dsimp only at hS hO
    rw [if_pos (show (0 : Int32) = 0 from rfl)] at hS hO
    subst hS
    exact ⟨f1, hO ⟨hpi1, trivial⟩, Or.inr ⟨t0 + 1 + 1, f2, f3, a7.1, rfl, z4⟩⟩
  rw [n2.one b2] at hS hO
  unfold kb_r2 at hS
  unfold ob_r2 at hO
  dsimp only at hS hO
  rw [if10] at hS hO
  replace hO := fun z => hO ⟨hpi1, z⟩
  rcases take_sim L b7 24 24 24 (by decide) (by decide) rfl rfl with ⟨c1, c2, c3, c4, c5, -, m3, n3, c7⟩ | ⟨c1, c2, c3⟩
  · rw [if_pos c2] at hS hO
    have hk3 : ¬ m2.kd = 30 := by rw [c2]; decide
    rw [n3.pass] at hS hO
    unfold kb_r10 at hS
    unfold ob_r10 at hO
    dsimp only at hS hO
    replace hO := fun z => hO ⟨hk3, hin, z⟩
    rcases take_sim L c7 2 2 15 (by decide) (by decide) rfl rfl with ⟨d1, d2, d3, d4, d5, ⟨v, d6, d8⟩, m4, n4, d7⟩ | ⟨d1, d2, d3⟩
    case inr =>
      obtain ⟨f1, f2, f3⟩ := hfail (t0 + 1 + 1 + 1 + 1) (by unfold s_Par_range; simp only [b1, if10, c1, d1, if_true]) (by unfold s_Par_range; simp only [b1, if10, c1, d1, if_true])
      obtain ⟨k, -, -, -, z4, -, -⟩ := c7.view L
      rw [one_n d2] at hS hO
      unfold kb_r11 at hS
      unfold ob_r11 at hO
      dsimp only at hS hO
      rw [if_pos (show (0 : Int32) = 0 from rfl)] at hS hO
      subst hS
      exact ⟨f1, hO trivial, Or.inr ⟨t0 + 1 + 1 + 1 + 1, f2, f3, c7.1, rfl, z4⟩⟩
    rw [n4.one d2] at hS hO
    unfold kb_r11 at hS
    unfold ob_r11 at hO
    dsimp only at hS hO
    rw [if10] at hS hO
    rcases take_sim L d7 10 10 7 (by decide) (by decide) rfl rfl with ⟨x1, x2, x3, x4, x5, -, m5, n5, x7⟩ | ⟨x1, x2, x3⟩
    case inr =>
      obtain ⟨f1, f2, f3⟩ := hfail (t0 + 1 + 1 + 1 + 1 + 1) (by unfold s_Par_range; simp only [b1, if10, c1, d1, x1, if_true]) (by unfold s_Par_range; simp only [b1, if10, c1, d1, x1, if_true])
      obtain ⟨k, -, -, -, z4, -, -⟩ := d7.view L
      rw [one_n x2] at hS hO
      unfold kb_r12 at hS
      unfold ob_r12 at hO
      dsimp only at hS hO
      rw [if_pos (show (0 : Int32) = 0 from rfl)] at hS hO
      subst hS
      exact ⟨f1, hO trivial, Or.inr ⟨t0 + 1 + 1 + 1 + 1 + 1, f2, f3, d7.1, rfl, z4⟩⟩
    rw [n5.one x2] at hS hO
    unfold kb_r12 at hS
    unfold ob_r12 at hO
    dsimp only at hS hO
    rw [if10] at hS hO
    have hlo : (-1) * s_Par_value V (nI (t0 + 1 + 1 + 1 + 1)) = -m3.vl := by
      rw [par_value (by omega), ← d5, neg_m]
    rcases take_sim L x7 24 24 24 (by decide) (by decide) rfl rfl with ⟨y1, y2, y3, y4, y5, -, m6, n6, y7⟩ | ⟨y1, y2, y3⟩
    · rw [if_pos y2] at hS hO
      have hk5 : ¬ m5.kd = 30 := by rw [y2]; decide
      rw [n6.pass] at hS hO
      unfold kb_r15 at hS
      unfold ob_r15 at hO
      dsimp only at hS hO
      replace hO := fun z => hO ⟨hk5, hin, z⟩
      have hrng : s_Par_range K V (nI (t0 + 1 + 1)) 0 0 = rngE K V (nI (t0 + 1 + 1 + 1 + 1 + 1 + 1 + 1)) ((-1) * s_Par_value V (nI (t0 + 1 + 1 + 1 + 1))) (-1) := by
        unfold s_Par_range rngE
        simp only [b1, if10, c1, d1, x1, y1]
      rw [hlo] at hrng
      have hhi : (-1) * m6.vl = -m6.vl := neg_m _
      obtain ⟨kk, -, -, -, zz, -, -⟩ := y7.view L
      simp only [hcl, pk_us] at hS hO
      rcases rngE_sim L y7 (-m3.vl) (-1) with ⟨v', r1, r2, r3, r4, r5, r6, m7, n7, r7⟩ | ⟨r1, r2, r3⟩
      · rw [← r3, hhi] at r4 r5 r6
        rw [if_pos r2, if_neg r4, if_pos r5, n7.pass] at hS
        rw [if_pos r2, if_neg r4, if_pos r5, n7.pass] at hO
        unfold kb_r16 at hS
        unfold ob_r16 at hO
        dsimp only at hS hO
        unfold kb_r17 at hS
        unfold ob_r17 at hO
        dsimp only at hS hO
        simp only [hcl] at hS
        have hk7 : ¬ m6.kd = 30 := by rw [r2]; decide
        obtain ⟨sp, s1, s2⟩ := span20 r4 r5
        obtain ⟨w1, w2, w3⟩ := where_sim (S := S) (W := W) (tp := tp) (bg := bg) (en := en) (Q := Q) (j := j) (cs := cs) (m := m7) L R hq (by omega) (hgood _ _ _ (hrng.trans r6) _ _ _ _ _ _ _ _) r7 (n7.js.trans (n6.js.trans (n5.js.trans (n4.js.trans (n3.js.trans (n2.js.trans (n1.js.trans (hj)))))))) hj2 (n7.sz.trans (n6.sz.trans (n5.sz.trans (n4.sz.trans (n3.sz.trans (n2.sz.trans (n1.sz.trans (hs)))))))) (by omega)
        simp only [n1.js, n1.sz, n1.co, n1.dp, n1.gc, n1.go, n1.wi, n2.js, n2.sz, n2.co, n2.dp, n2.gc, n2.go, n2.wi, n3.js, n3.sz, n3.co, n3.dp, n3.gc, n3.go, n3.wi, n4.js, n4.sz, n4.co, n4.dp, n4.gc, n4.go, n4.wi, n5.js, n5.sz, n5.co, n5.dp, n5.gc, n5.go, n5.wi, n6.js, n6.sz, n6.co, n6.dp, n6.gc, n6.go, n6.wi, n7.js, n7.sz, n7.co, n7.dp, n7.gc, n7.go, n7.wi] at w2 w3
        have w3' : QsR g K V P N n e Lc m7 (t0 + 1 + 1 + 1 + 1 + 1 + 1 + 1 + 1) cs nq S W Q (fun x y z => qF 2 (nI c) (-m3.vl) (-m6.vl) 1 x y z) tp bg en (s_Par_asks K V S W (nI cs) Q (nI nq) LO (nI t0) (nI j)) (s_Mo_readWhere g (nI N) m7.ks m7.vs m7.tk m7.at_ m7.pl m7.kd m7.vl m.dp m.js told lo m.co m.sz tp bg en m.go m.wi m.gc (nI nq)) := w3
        refine ⟨w1, hO ⟨hin, hin, hin, hin, hk7, w2, ?_⟩, Or.inl ⟨c, t0 + 1 + 1 + 1 + 1 + 1 + 1 + 1 + 1, sp, -m3.vl, -m6.vl, m7, _, hc6, s1, s2, ?_, ?_, hS.trans (su_if w3'.fst), w3'⟩⟩
        · split <;> trivial
        · omega
        · rw [n7.co, n6.co, n5.co, n4.co, n3.co, n2.co, n1.co]
      · obtain ⟨f1, f2, f3⟩ := hfail (t0 + 1 + 1 + 1 + 1 + 1 + 1 + 1) (by rw [hrng]; exact r1) (by rw [hrng]; exact r2)
        rw [hhi] at r3
        by_cases k15 : m6.kd = 15
        · rw [if_pos k15] at hS hO
          by_cases kl : -m6.vl < -m3.vl
          · rw [if_pos kl] at hS hO
            subst hS
            exact ⟨f1, hO ⟨hin, hin, trivial⟩, Or.inr ⟨t0 + 1 + 1 + 1 + 1 + 1 + 1 + 1, f2, f3, y7.1, rfl, zz⟩⟩
          · have kc := r3 k15 kl
            rw [if_neg kl, if_neg kc] at hS hO
            subst hS
            exact ⟨f1, hO ⟨hin, hin, hin, hin, trivial⟩, Or.inr ⟨t0 + 1 + 1 + 1 + 1 + 1 + 1 + 1, f2, f3, y7.1, rfl, zz⟩⟩
        · rw [if_neg k15] at hS hO
          subst hS
          exact ⟨f1, hO trivial, Or.inr ⟨t0 + 1 + 1 + 1 + 1 + 1 + 1 + 1, f2, f3, y7.1, rfl, zz⟩⟩
    · rw [if_neg y2] at hS hO
      replace hO := fun z => hO ⟨hin, z⟩
      have hrng : s_Par_range K V (nI (t0 + 1 + 1)) 0 0 = rngE K V (nI (t0 + 1 + 1 + 1 + 1 + 1 + 1)) ((-1) * s_Par_value V (nI (t0 + 1 + 1 + 1 + 1))) 1 := by
        unfold s_Par_range rngE
        simp only [b1, if10, c1, d1, x1, y1, if_true]
      rw [hlo] at hrng
      have hhi : 1 * m5.vl = m5.vl := one_m _
      obtain ⟨kk, -, -, -, zz, -, -⟩ := x7.view L
      simp only [hcl, pk_us] at hS hO
      rcases rngE_sim L x7 (-m3.vl) 1 with ⟨v', r1, r2, r3, r4, r5, r6, m6, n6, r7⟩ | ⟨r1, r2, r3⟩
      · rw [← r3, hhi] at r4 r5 r6
        rw [if_pos r2, if_neg r4, if_pos r5, n6.pass] at hS
        rw [if_pos r2, if_neg r4, if_pos r5, n6.pass] at hO
        unfold kb_r13 at hS
        unfold ob_r13 at hO
        dsimp only at hS hO
        unfold kb_r14 at hS
        unfold ob_r14 at hO
        dsimp only at hS hO
        simp only [hcl] at hS
        have hk7 : ¬ m5.kd = 30 := by rw [r2]; decide
        obtain ⟨sp, s1, s2⟩ := span20 r4 r5
        obtain ⟨w1, w2, w3⟩ := where_sim (S := S) (W := W) (tp := tp) (bg := bg) (en := en) (Q := Q) (j := j) (cs := cs) (m := m6) L R hq (by omega) (hgood _ _ _ (hrng.trans r6) _ _ _ _ _ _ _ _) r7 (n6.js.trans (n5.js.trans (n4.js.trans (n3.js.trans (n2.js.trans (n1.js.trans (hj))))))) hj2 (n6.sz.trans (n5.sz.trans (n4.sz.trans (n3.sz.trans (n2.sz.trans (n1.sz.trans (hs))))))) (by omega)
        simp only [n1.js, n1.sz, n1.co, n1.dp, n1.gc, n1.go, n1.wi, n2.js, n2.sz, n2.co, n2.dp, n2.gc, n2.go, n2.wi, n3.js, n3.sz, n3.co, n3.dp, n3.gc, n3.go, n3.wi, n4.js, n4.sz, n4.co, n4.dp, n4.gc, n4.go, n4.wi, n5.js, n5.sz, n5.co, n5.dp, n5.gc, n5.go, n5.wi, n6.js, n6.sz, n6.co, n6.dp, n6.gc, n6.go, n6.wi] at w2 w3
        have w3' : QsR g K V P N n e Lc m6 (t0 + 1 + 1 + 1 + 1 + 1 + 1 + 1) cs nq S W Q (fun x y z => qF 2 (nI c) (-m3.vl) (m5.vl) 1 x y z) tp bg en (s_Par_asks K V S W (nI cs) Q (nI nq) LO (nI t0) (nI j)) (s_Mo_readWhere g (nI N) m6.ks m6.vs m6.tk m6.at_ m6.pl m6.kd m6.vl m.dp m.js told lo m.co m.sz tp bg en m.go m.wi m.gc (nI nq)) := w3
        refine ⟨w1, hO ⟨hin, hin, hin, hin, hk7, w2, ?_⟩, Or.inl ⟨c, t0 + 1 + 1 + 1 + 1 + 1 + 1 + 1, sp, -m3.vl, m5.vl, m6, _, hc6, s1, s2, ?_, ?_, hS.trans (su_if w3'.fst), w3'⟩⟩
        · split <;> trivial
        · omega
        · rw [n6.co, n5.co, n4.co, n3.co, n2.co, n1.co]
      · obtain ⟨f1, f2, f3⟩ := hfail (t0 + 1 + 1 + 1 + 1 + 1 + 1) (by rw [hrng]; exact r1) (by rw [hrng]; exact r2)
        rw [hhi] at r3
        by_cases k15 : m5.kd = 15
        · rw [if_pos k15] at hS hO
          by_cases kl : m5.vl < -m3.vl
          · rw [if_pos kl] at hS hO
            subst hS
            exact ⟨f1, hO ⟨hin, hin, trivial⟩, Or.inr ⟨t0 + 1 + 1 + 1 + 1 + 1 + 1, f2, f3, x7.1, rfl, zz⟩⟩
          · have kc := r3 k15 kl
            rw [if_neg kl, if_neg kc] at hS hO
            subst hS
            exact ⟨f1, hO ⟨hin, hin, hin, hin, trivial⟩, Or.inr ⟨t0 + 1 + 1 + 1 + 1 + 1 + 1, f2, f3, x7.1, rfl, zz⟩⟩
        · rw [if_neg k15] at hS hO
          subst hS
          exact ⟨f1, hO trivial, Or.inr ⟨t0 + 1 + 1 + 1 + 1 + 1 + 1, f2, f3, x7.1, rfl, zz⟩⟩
  · rw [if_neg c2] at hS hO
    replace hO := fun z => hO ⟨hin, z⟩
    rcases take_sim L b7 2 2 15 (by decide) (by decide) rfl rfl with ⟨d1, d2, d3, d4, d5, ⟨v, d6, d8⟩, m3, n3, d7⟩ | ⟨d1, d2, d3⟩
    case inr =>
      obtain ⟨f1, f2, f3⟩ := hfail (t0 + 1 + 1 + 1) (by unfold s_Par_range; simp only [b1, if10, c1, if_true, d1, if_true]) (by unfold s_Par_range; simp only [b1, if10, c1, if_true, d1, if_true])
      obtain ⟨k, -, -, -, z4, -, -⟩ := b7.view L
      rw [one_n d2] at hS hO
      unfold kb_r3 at hS
      unfold ob_r3 at hO
      dsimp only at hS hO
      rw [if_pos (show (0 : Int32) = 0 from rfl)] at hS hO
      subst hS
      exact ⟨f1, hO trivial, Or.inr ⟨t0 + 1 + 1 + 1, f2, f3, b7.1, rfl, z4⟩⟩
    rw [n3.one d2] at hS hO
    unfold kb_r3 at hS
    unfold ob_r3 at hO
    dsimp only at hS hO
    rw [if10] at hS hO
    rcases take_sim L d7 10 10 7 (by decide) (by decide) rfl rfl with ⟨x1, x2, x3, x4, x5, -, m4, n4, x7⟩ | ⟨x1, x2, x3⟩
    case inr =>
      obtain ⟨f1, f2, f3⟩ := hfail (t0 + 1 + 1 + 1 + 1) (by unfold s_Par_range; simp only [b1, if10, c1, if_true, d1, x1, if_true]) (by unfold s_Par_range; simp only [b1, if10, c1, if_true, d1, x1, if_true])
      obtain ⟨k, -, -, -, z4, -, -⟩ := d7.view L
      rw [one_n x2] at hS hO
      unfold kb_r4 at hS
      unfold ob_r4 at hO
      dsimp only at hS hO
      rw [if_pos (show (0 : Int32) = 0 from rfl)] at hS hO
      subst hS
      exact ⟨f1, hO trivial, Or.inr ⟨t0 + 1 + 1 + 1 + 1, f2, f3, d7.1, rfl, z4⟩⟩
    rw [n4.one x2] at hS hO
    unfold kb_r4 at hS
    unfold ob_r4 at hO
    dsimp only at hS hO
    rw [if10] at hS hO
    have hlo : 1 * s_Par_value V (nI (t0 + 1 + 1 + 1)) = m2.vl := by
      rw [par_value (by omega), ← d5, one_m]
    rcases take_sim L x7 24 24 24 (by decide) (by decide) rfl rfl with ⟨y1, y2, y3, y4, y5, -, m5, n5, y7⟩ | ⟨y1, y2, y3⟩
    · rw [if_pos y2] at hS hO
      have hk5 : ¬ m4.kd = 30 := by rw [y2]; decide
      rw [n5.pass] at hS hO
      unfold kb_r7 at hS
      unfold ob_r7 at hO
      dsimp only at hS hO
      replace hO := fun z => hO ⟨hk5, hin, z⟩
      have hrng : s_Par_range K V (nI (t0 + 1 + 1)) 0 0 = rngE K V (nI (t0 + 1 + 1 + 1 + 1 + 1 + 1)) (1 * s_Par_value V (nI (t0 + 1 + 1 + 1))) (-1) := by
        unfold s_Par_range rngE
        simp only [b1, if10, c1, if_true, d1, x1, y1]
      rw [hlo] at hrng
      have hhi : (-1) * m5.vl = -m5.vl := neg_m _
      obtain ⟨kk, -, -, -, zz, -, -⟩ := y7.view L
      simp only [hcl, pk_us] at hS hO
      rcases rngE_sim L y7 (m2.vl) (-1) with ⟨v', r1, r2, r3, r4, r5, r6, m6, n6, r7⟩ | ⟨r1, r2, r3⟩
      · rw [← r3, hhi] at r4 r5 r6
        rw [if_pos r2, if_neg r4, if_pos r5, n6.pass] at hS
        rw [if_pos r2, if_neg r4, if_pos r5, n6.pass] at hO
        unfold kb_r8 at hS
        unfold ob_r8 at hO
        dsimp only at hS hO
        unfold kb_r9 at hS
        unfold ob_r9 at hO
        dsimp only at hS hO
        simp only [hcl] at hS
        have hk7 : ¬ m5.kd = 30 := by rw [r2]; decide
        obtain ⟨sp, s1, s2⟩ := span20 r4 r5
        obtain ⟨w1, w2, w3⟩ := where_sim (S := S) (W := W) (tp := tp) (bg := bg) (en := en) (Q := Q) (j := j) (cs := cs) (m := m6) L R hq (by omega) (hgood _ _ _ (hrng.trans r6) _ _ _ _ _ _ _ _) r7 (n6.js.trans (n5.js.trans (n4.js.trans (n3.js.trans (n2.js.trans (n1.js.trans (hj))))))) hj2 (n6.sz.trans (n5.sz.trans (n4.sz.trans (n3.sz.trans (n2.sz.trans (n1.sz.trans (hs))))))) (by omega)
        simp only [n1.js, n1.sz, n1.co, n1.dp, n1.gc, n1.go, n1.wi, n2.js, n2.sz, n2.co, n2.dp, n2.gc, n2.go, n2.wi, n3.js, n3.sz, n3.co, n3.dp, n3.gc, n3.go, n3.wi, n4.js, n4.sz, n4.co, n4.dp, n4.gc, n4.go, n4.wi, n5.js, n5.sz, n5.co, n5.dp, n5.gc, n5.go, n5.wi, n6.js, n6.sz, n6.co, n6.dp, n6.gc, n6.go, n6.wi] at w2 w3
        have w3' : QsR g K V P N n e Lc m6 (t0 + 1 + 1 + 1 + 1 + 1 + 1 + 1) cs nq S W Q (fun x y z => qF 2 (nI c) (m2.vl) (-m5.vl) 1 x y z) tp bg en (s_Par_asks K V S W (nI cs) Q (nI nq) LO (nI t0) (nI j)) (s_Mo_readWhere g (nI N) m6.ks m6.vs m6.tk m6.at_ m6.pl m6.kd m6.vl m.dp m.js told lo m.co m.sz tp bg en m.go m.wi m.gc (nI nq)) := w3
        refine ⟨w1, hO ⟨hin, hin, hin, hin, hk7, w2, ?_⟩, Or.inl ⟨c, t0 + 1 + 1 + 1 + 1 + 1 + 1 + 1, sp, m2.vl, -m5.vl, m6, _, hc6, s1, s2, ?_, ?_, hS.trans (su_if w3'.fst), w3'⟩⟩
        · split <;> trivial
        · omega
        · rw [n6.co, n5.co, n4.co, n3.co, n2.co, n1.co]
      · obtain ⟨f1, f2, f3⟩ := hfail (t0 + 1 + 1 + 1 + 1 + 1 + 1) (by rw [hrng]; exact r1) (by rw [hrng]; exact r2)
        rw [hhi] at r3
        by_cases k15 : m5.kd = 15
        · rw [if_pos k15] at hS hO
          by_cases kl : -m5.vl < m2.vl
          · rw [if_pos kl] at hS hO
            subst hS
            exact ⟨f1, hO ⟨hin, hin, trivial⟩, Or.inr ⟨t0 + 1 + 1 + 1 + 1 + 1 + 1, f2, f3, y7.1, rfl, zz⟩⟩
          · have kc := r3 k15 kl
            rw [if_neg kl, if_neg kc] at hS hO
            subst hS
            exact ⟨f1, hO ⟨hin, hin, hin, hin, trivial⟩, Or.inr ⟨t0 + 1 + 1 + 1 + 1 + 1 + 1, f2, f3, y7.1, rfl, zz⟩⟩
        · rw [if_neg k15] at hS hO
          subst hS
          exact ⟨f1, hO trivial, Or.inr ⟨t0 + 1 + 1 + 1 + 1 + 1 + 1, f2, f3, y7.1, rfl, zz⟩⟩
    · rw [if_neg y2] at hS hO
      replace hO := fun z => hO ⟨hin, z⟩
      have hrng : s_Par_range K V (nI (t0 + 1 + 1)) 0 0 = rngE K V (nI (t0 + 1 + 1 + 1 + 1 + 1)) (1 * s_Par_value V (nI (t0 + 1 + 1 + 1))) 1 := by
        unfold s_Par_range rngE
        simp only [b1, if10, c1, if_true, d1, x1, y1, if_true]
      rw [hlo] at hrng
      have hhi : 1 * m4.vl = m4.vl := one_m _
      obtain ⟨kk, -, -, -, zz, -, -⟩ := x7.view L
      simp only [hcl, pk_us] at hS hO
      rcases rngE_sim L x7 (m2.vl) 1 with ⟨v', r1, r2, r3, r4, r5, r6, m5, n5, r7⟩ | ⟨r1, r2, r3⟩
      · rw [← r3, hhi] at r4 r5 r6
        rw [if_pos r2, if_neg r4, if_pos r5, n5.pass] at hS
        rw [if_pos r2, if_neg r4, if_pos r5, n5.pass] at hO
        unfold kb_r5 at hS
        unfold ob_r5 at hO
        dsimp only at hS hO
        unfold kb_r6 at hS
        unfold ob_r6 at hO
        dsimp only at hS hO
        simp only [hcl] at hS
        have hk7 : ¬ m4.kd = 30 := by rw [r2]; decide
        obtain ⟨sp, s1, s2⟩ := span20 r4 r5
        obtain ⟨w1, w2, w3⟩ := where_sim (S := S) (W := W) (tp := tp) (bg := bg) (en := en) (Q := Q) (j := j) (cs := cs) (m := m5) L R hq (by omega) (hgood _ _ _ (hrng.trans r6) _ _ _ _ _ _ _ _) r7 (n5.js.trans (n4.js.trans (n3.js.trans (n2.js.trans (n1.js.trans (hj)))))) hj2 (n5.sz.trans (n4.sz.trans (n3.sz.trans (n2.sz.trans (n1.sz.trans (hs)))))) (by omega)
        simp only [n1.js, n1.sz, n1.co, n1.dp, n1.gc, n1.go, n1.wi, n2.js, n2.sz, n2.co, n2.dp, n2.gc, n2.go, n2.wi, n3.js, n3.sz, n3.co, n3.dp, n3.gc, n3.go, n3.wi, n4.js, n4.sz, n4.co, n4.dp, n4.gc, n4.go, n4.wi, n5.js, n5.sz, n5.co, n5.dp, n5.gc, n5.go, n5.wi] at w2 w3
        have w3' : QsR g K V P N n e Lc m5 (t0 + 1 + 1 + 1 + 1 + 1 + 1) cs nq S W Q (fun x y z => qF 2 (nI c) (m2.vl) (m4.vl) 1 x y z) tp bg en (s_Par_asks K V S W (nI cs) Q (nI nq) LO (nI t0) (nI j)) (s_Mo_readWhere g (nI N) m5.ks m5.vs m5.tk m5.at_ m5.pl m5.kd m5.vl m.dp m.js told lo m.co m.sz tp bg en m.go m.wi m.gc (nI nq)) := w3
        refine ⟨w1, hO ⟨hin, hin, hin, hin, hk7, w2, ?_⟩, Or.inl ⟨c, t0 + 1 + 1 + 1 + 1 + 1 + 1, sp, m2.vl, m4.vl, m5, _, hc6, s1, s2, ?_, ?_, hS.trans (su_if w3'.fst), w3'⟩⟩
        · split <;> trivial
        · omega
        · rw [n5.co, n4.co, n3.co, n2.co, n1.co]
      · obtain ⟨f1, f2, f3⟩ := hfail (t0 + 1 + 1 + 1 + 1 + 1) (by rw [hrng]; exact r1) (by rw [hrng]; exact r2)
        rw [hhi] at r3
        by_cases k15 : m4.kd = 15
        · rw [if_pos k15] at hS hO
          by_cases kl : m4.vl < m2.vl
          · rw [if_pos kl] at hS hO
            subst hS
            exact ⟨f1, hO ⟨hin, hin, trivial⟩, Or.inr ⟨t0 + 1 + 1 + 1 + 1 + 1, f2, f3, x7.1, rfl, zz⟩⟩
          · have kc := r3 k15 kl
            rw [if_neg kl, if_neg kc] at hS hO
            subst hS
            exact ⟨f1, hO ⟨hin, hin, hin, hin, trivial⟩, Or.inr ⟨t0 + 1 + 1 + 1 + 1 + 1, f2, f3, x7.1, rfl, zz⟩⟩
        · rw [if_neg k15] at hS hO
          subst hS
          exact ⟨f1, hO trivial, Or.inr ⟨t0 + 1 + 1 + 1 + 1 + 1, f2, f3, x7.1, rfl, zz⟩⟩
end TOP5
