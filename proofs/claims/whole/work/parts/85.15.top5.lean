/-! bins -/
section TOP5
variable {g K V P : Nat → Int32} {N n : Nat} {e pos : Nat → Nat} {LO told lo : Nat → Int32} {Lc : Nat}
theorem d64 (a b : Int32) : (a.toInt64 - b.toInt64).toInt = a.toInt - b.toInt := by
  rw [Int64.toInt_sub, Int32.toInt_toInt64, Int32.toInt_toInt64]
  have h1 := Int32.le_toInt a
  have h2 := Int32.toInt_lt a
  have h3 := Int32.le_toInt b
  have h4 := Int32.toInt_lt b
  exact Int.bmod_eq_of_le (by omega) (by omega)
theorem lt0 (a b : Int32) : lg_cmp (a.toInt64 - b.toInt64) 0 < 0 ↔ a < b := by
  rw [lg_cmp_lt, Int64.lt_iff_toInt_lt, d64, show (0 : Int64).toInt = 0 by decide, Int32.lt_iff_toInt_lt]
  omega
theorem ge20 (x : Int64) : (0 ≤ lg_cmp x 20) ↔ ¬ lg_cmp x 20 < 0 := by
  rw [lg_cmp_ge, lg_cmp_lt, Int64.le_iff_toInt_le, Int64.lt_iff_toInt_lt]
  omega
theorem span20 {a b : Int32} (h1 : ¬ a < b) (h2 : lg_cmp (a.toInt64 - b.toInt64) 20 < 0) : ∃ k : Nat, k < 20 ∧ a.toInt = b.toInt + k := by
  rw [Int32.lt_iff_toInt_lt] at h1
  rw [lg_cmp_lt, Int64.lt_iff_toInt_lt, d64, show (20 : Int64).toInt = 20 by decide] at h2
  exact ⟨(a.toInt - b.toInt).toNat, by omega, by omega⟩
theorem one_m (x : Int32) : 1 * x = x := Int32.one_mul x
theorem neg_m (x : Int32) : (-1) * x = -x := by
  apply Int32.toInt_inj.mp
  rw [Int32.toInt_mul, Int32.toInt_neg, show (-1 : Int32).toInt = -1 by decide, Int.neg_mul, Int.one_mul]
/-- the end of a range: the upper number -/
def rngE (K V : Nat → Int32) (t X s : Int32) : Int32 × Int32 × Int32 × Int32 :=
  if (lg_cmp (((s * s_Par_value V t).toInt64) - (X.toInt64)) 0) < 0 then (0, t, X, s * s_Par_value V t)
  else if 0 ≤ (lg_cmp (((s * s_Par_value V t).toInt64) - (X.toInt64)) 20) then (0, t, X, s * s_Par_value V t)
  else if (s_Par_take K t 2).1 = 0 then (0, (s_Par_take K t 2).2, X, s * s_Par_value V t)
  else (1, (s_Par_take K t 2).2, X, s * s_Par_value V t)
theorem rngE_sim (L : LexR g K V P N n e pos) {m : MS} {t : Nat} (hat : At g K V N n e m t) (X s : Int32) :
    (∃ v : Nat, v < 2 ^ 31 ∧ m.kd = 15 ∧ m.vl = nI v ∧ ¬ s * nI v < X ∧ lg_cmp ((s * nI v).toInt64 - X.toInt64) 20 < 0 ∧ rngE K V (nI t) X s = (1, nI (t + 1), X, s * nI v) ∧ At g K V N n e (m.next g (nI N)) (t + 1)) ∨
    ((rngE K V (nI t) X s).1 = 0 ∧ (rngE K V (nI t) X s).2.1 = nI t ∧ (m.kd = 15 → ¬ s * m.vl < X → ¬ lg_cmp ((s * m.vl).toInt64 - X.toInt64) 20 < 0)) := by
  have hn := L.le
  have hN := L.hN
  have ht := hat.1
  unfold rngE
  rw [par_value (show t ≤ 2000 by omega)]
  rcases take_sim L hat 2 2 15 (by decide) (by decide) rfl rfl with ⟨a1, a2, a3, a4, a5, ⟨v, a6, a8⟩, a7⟩ | ⟨a1, a2, a3⟩
  · rw [a1, a5, a8]
    by_cases c1 : s * nI v < X
    · rw [if_pos ((lt0 _ _).mpr c1)]
      exact Or.inr ⟨rfl, rfl, fun _ q => absurd c1 q⟩
    · rw [if_neg (fun q => c1 ((lt0 _ _).mp q))]
      by_cases c2 : lg_cmp ((s * nI v).toInt64 - X.toInt64) 20 < 0
      · rw [if_neg (fun q => (ge20 _).mp q c2)]
        dsimp only
        rw [if10]
        exact Or.inl ⟨v, a6.2.2.1, a2, rfl, c1, c2, rfl, a7⟩
      · rw [if_pos ((ge20 _).mpr c2)]
        exact Or.inr ⟨rfl, rfl, fun _ _ => c2⟩
  · refine Or.inr ?_
    rw [a1]
    dsimp only
    rw [if_pos (show (0 : Int32) = 0 from rfl)]
    refine ⟨?_, ?_, fun q => absurd q a2⟩
    · split
      · rfl
      · split <;> rfl
    · split
      · rfl
      · split <;> rfl
theorem su_if {w : WT} {a b c : Nat → Int32} (h : w.1 = 0 ∨ w.1 = 1) : (if w.1 = 0 then ((0 : Int32), w.2.1, w.2.2.1, w.2.2.2.1, w.2.2.2.2.1, w.2.2.2.2.2.1, w.2.2.2.2.2.2.1, w.2.2.2.2.2.2.2.1, w.2.2.2.2.2.2.2.2.1, w.2.2.2.2.2.2.2.2.2.1, w.2.2.2.2.2.2.2.2.2.2.1, w.2.2.2.2.2.2.2.2.2.2.2.1, w.2.2.2.2.2.2.2.2.2.2.2.2.1, a, b, c, w.2.2.2.2.2.2.2.2.2.2.2.2.2.1, w.2.2.2.2.2.2.2.2.2.2.2.2.2.2.1, w.2.2.2.2.2.2.2.2.2.2.2.2.2.2.2.1, w.2.2.2.2.2.2.2.2.2.2.2.2.2.2.2.2.1, w.2.2.2.2.2.2.2.2.2.2.2.2.2.2.2.2.2) else (1, w.2.1, w.2.2.1, w.2.2.2.1, w.2.2.2.2.1, w.2.2.2.2.2.1, w.2.2.2.2.2.2.1, w.2.2.2.2.2.2.2.1, w.2.2.2.2.2.2.2.2.1, w.2.2.2.2.2.2.2.2.2.1, w.2.2.2.2.2.2.2.2.2.2.1, w.2.2.2.2.2.2.2.2.2.2.2.1, w.2.2.2.2.2.2.2.2.2.2.2.2.1, a, b, c, w.2.2.2.2.2.2.2.2.2.2.2.2.2.1, w.2.2.2.2.2.2.2.2.2.2.2.2.2.2.1, w.2.2.2.2.2.2.2.2.2.2.2.2.2.2.2.1, w.2.2.2.2.2.2.2.2.2.2.2.2.2.2.2.2.1, w.2.2.2.2.2.2.2.2.2.2.2.2.2.2.2.2.2)) = suT w a b c := by
  unfold suT
  rcases h with h | h
  · rw [if_pos h, h]
  · rw [if_neg (by rw [h]; decide), h]
theorem QsR.fst {m : MS} {t cs nq : Nat} {S W : Nat → Int32} {Q : Nat → Nat → Int32} {F : Int32 → Int32 → Int32 → Nat → Int32} {tp bg en : Nat → Int32} {r : AT} {w : WT} (h : QsR g K V P N n e Lc m t cs nq S W Q F tp bg en r w) : w.1 = 0 ∨ w.1 = 1 := by
  rcases h with ⟨_, _, _, _, _, _, _, _, _, rfl, _⟩ | ⟨_, _, _, _, _, _, _, _, rfl, _⟩
  · exact Or.inr rfl
  · exact Or.inl rfl
theorem bins_top (L : LexR g K V P N n e pos) (R : LetR LO told lo Lc) {m : MS} {t0 j cs nq : Nat} {S W co lw hi tp bg en : Nat → Int32} {Q : Nat → Nat → Int32} (hq : nq < 12) (hK : K t0 = nI 8) (hat : At g K V N n e m (t0 + 1)) (hj : m.js = nI j) (hj2 : j ≤ 150) (hs : m.sz = nI (2 * cs)) (hc : cs ≤ t0) :
    ok_Par_asks K V S W (nI cs) Q (nI nq) LO (nI t0) (nI j) ∧ ok_Mo_readBins g (nI N) m.ks m.vs m.tk m.at_ m.pl m.kd m.vl m.dp m.js told lo m.co m.sz co lw hi tp bg en m.go m.wi m.gc (nI nq) ∧
    ((∃ (c t w' : Nat) (X Y : Int32) (m' : MS) (w : WT), c < 6 ∧ w' < 20 ∧ Y.toInt = X.toInt + w' ∧ t0 + 1 ≤ t ∧ m'.co = m.co ∧ s_Mo_readBins g (nI N) m.ks m.vs m.tk m.at_ m.pl m.kd m.vl m.dp m.js told lo m.co m.sz co lw hi tp bg en m.go m.wi m.gc (nI nq) = suT w (upd co nq (nI c)) (upd lw nq X) (upd hi nq Y) ∧ QsR g K V P N n e Lc m' t cs nq S W Q (fun x y z => qF 2 (nI c) X Y 1 x y z) tp bg en (s_Par_asks K V S W (nI cs) Q (nI nq) LO (nI t0) (nI j)) w) ∨
     (∃ t' : Nat, (s_Par_asks K V S W (nI cs) Q (nI nq) LO (nI t0) (nI j)).1 = 0 ∧ (s_Par_asks K V S W (nI cs) Q (nI nq) LO (nI t0) (nI j)).2.1 = nI t' ∧ t' ≤ n ∧ (s_Mo_readBins g (nI N) m.ks m.vs m.tk m.at_ m.pl m.kd m.vl m.dp m.js told lo m.co m.sz co lw hi tp bg en m.go m.wi m.gc (nI nq)).1 = 0 ∧ (s_Mo_readBins g (nI N) m.ks m.vs m.tk m.at_ m.pl m.kd m.vl m.dp m.js told lo m.co m.sz co lw hi tp bg en m.go m.wi m.gc (nI nq)).2.2.2.1 = P t')) := by
  have hn := L.le
  have hN := L.hN
  have ht := hat.1
  have hin : vp_in (nI nq) 12 := vp_in_nI hq (by decide)
  have hpi := hat.pi L
  have e6 : s_Par_take K (nI t0) 6 = (0, nI t0) := (par_take (show t0 ≤ 2000 by omega) hK (by decide) (show 6 < 31 by decide)).trans (if_neg (by decide))
  have e7 : s_Par_take K (nI t0) 7 = (0, nI t0) := (par_take (show t0 ≤ 2000 by omega) hK (by decide) (show 7 < 31 by decide)).trans (if_neg (by decide))
  have e8 : s_Par_take K (nI t0) 8 = (1, nI (t0 + 1)) := (par_take (show t0 ≤ 2000 by omega) hK (by decide) (show 8 < 31 by decide)).trans (if_pos rfl)
  have hhead : ∀ q0 q1 q2 q3 q4 q5 q6 q7 : Int32, s_Par_head K V (nI t0) q0 q1 q2 q3 q4 q5 q6 q7 = (if (s_Par_take K (nI (t0 + 1)) 3).1 = 0 then (0, (s_Par_take K (nI (t0 + 1)) 3).2, 2, V (t0 + 1), 0, 0, 1, 0, 0, 0) else if (s_Par_range K V (s_Par_take K (nI (t0 + 1)) 3).2 0 0).1 = 0 then (0, (s_Par_range K V (s_Par_take K (nI (t0 + 1)) 3).2 0 0).2.1, 2, V (t0 + 1), (s_Par_range K V (s_Par_take K (nI (t0 + 1)) 3).2 0 0).2.2.1, (s_Par_range K V (s_Par_take K (nI (t0 + 1)) 3).2 0 0).2.2.2, 1, 0, 0, 0) else (1, (s_Par_range K V (s_Par_take K (nI (t0 + 1)) 3).2 0 0).2.1, 2, V (t0 + 1), (s_Par_range K V (s_Par_take K (nI (t0 + 1)) 3).2 0 0).2.2.1, (s_Par_range K V (s_Par_take K (nI (t0 + 1)) 3).2 0 0).2.2.2, 1, 0, 0, 0)) := fun q0 q1 q2 q3 q4 q5 q6 q7 => by
    unfold s_Par_head
    rw [e6]
    dsimp only
    rw [if_pos (show (0 : Int32) = 0 from rfl), e7]
    dsimp only
    rw [if_pos (show (0 : Int32) = 0 from rfl), e8]
    dsimp only
    rw [if10, col_eq (by omega)]
  rcases take_sim L hat 3 3 13 (by decide) (by decide) rfl rfl with ⟨a1, a2, a3, a4, a5, ⟨c, a6, a8⟩, a7⟩ | ⟨a1, a2, a3⟩
  case inr =>
    obtain ⟨f1, f2, f3⟩ := asks_hfail (LO := LO) (S := S) (W := W) (Q := Q) (t' := t0 + 1) (j := j) (cs := cs) hq (show t0 ≤ 2000 by omega) (by rw [hhead, a1]; rfl) (by rw [hhead, a1]; rfl)
    obtain ⟨k, -, -, -, z4, -, -⟩ := hat.view L
    refine ⟨f1, ?_, Or.inr ⟨t0 + 1, f2, f3, ht, ?_⟩⟩
    · unfold ok_Mo_readBins ok_Mo_readColumn s_Mo_readColumn
      rw [one_n a2]
      dsimp only
      rw [if_pos (show (0 : Int32) = 0 from rfl)]
      exact ⟨⟨hin, hpi, trivial⟩, trivial⟩
    · unfold s_Mo_readBins s_Mo_readColumn
      rw [one_n a2]
      dsimp only
      rw [if_pos (show (0 : Int32) = 0 from rfl)]
      exact ⟨rfl, z4⟩
  have hc6 : c < 6 := a6.2.2.2.1 rfl
  have hpi1 := a7.pi L
  have hfail : ∀ t' : Nat, (s_Par_range K V (nI (t0 + 1 + 1)) 0 0).1 = 0 → (s_Par_range K V (nI (t0 + 1 + 1)) 0 0).2.1 = nI t' → ok_Par_asks K V S W (nI cs) Q (nI nq) LO (nI t0) (nI j) ∧ (s_Par_asks K V S W (nI cs) Q (nI nq) LO (nI t0) (nI j)).1 = 0 ∧ (s_Par_asks K V S W (nI cs) Q (nI nq) LO (nI t0) (nI j)).2.1 = nI t' := fun t' h1 h2 => asks_hfail hq (show t0 ≤ 2000 by omega) (by rw [hhead, a1]; dsimp only; rw [if10, if_pos h1]) (by rw [hhead, a1]; dsimp only; rw [if10, if_pos h1]; exact h2)
  have hgood : ∀ (t : Nat) (X Y : Int32), s_Par_range K V (nI (t0 + 1 + 1)) 0 0 = (1, nI t, X, Y) → ∀ q0 q1 q2 q3 q4 q5 q6 q7 : Int32, s_Par_head K V (nI t0) q0 q1 q2 q3 q4 q5 q6 q7 = (1, nI t, 2, nI c, X, Y, 1, 0, 0, 0) := fun t X Y h q0 q1 q2 q3 q4 q5 q6 q7 => by
    rw [hhead, a1]
    dsimp only
    rw [if10, h, a8]
    dsimp only
    rw [if10]
  have ecol : s_Mo_readColumn g (nI N) m.ks m.vs m.tk m.at_ m.pl m.kd m.vl co (nI nq) = (1, (m.next g (nI N)).tk, (m.next g (nI N)).at_, (m.next g (nI N)).pl, (m.next g (nI N)).kd, (m.next g (nI N)).vl, (m.next g (nI N)).ks, (m.next g (nI N)).vs, upd co nq (nI c)) := by
    unfold s_Mo_readColumn
    rw [one_y a2, nI_clamp (by omega), a5, a8]
  have ocol : ok_Mo_readColumn g (nI N) m.ks m.vs m.tk m.at_ m.pl m.kd m.vl (nI nq) := ⟨hin, hpi, trivial⟩
  unfold ok_Mo_readBins s_Mo_readBins
  rw [ecol]
  dsimp only
  rw [if10, if10, nI_clamp (show nq < 2 ^ 31 by omega)]
  rcases take_sim L a7 9 9 9 (by decide) (by decide) rfl rfl with ⟨b1, b2, b3, b4, b5, -, b7⟩ | ⟨b1, b2, b3⟩
  case inr =>
    obtain ⟨f1, f2, f3⟩ := hfail (t0 + 1 + 1) (by unfold s_Par_range; rw [b1]; rfl) (by unfold s_Par_range; rw [b1]; rfl)
    obtain ⟨k, -, -, -, z4, -, -⟩ := a7.view L
    rw [one_n b2]
    dsimp only
    rw [if_pos (show (0 : Int32) = 0 from rfl), if_pos (show (0 : Int32) = 0 from rfl)]
    exact ⟨f1, ⟨ocol, hpi1, trivial⟩, Or.inr ⟨t0 + 1 + 1, f2, f3, a7.1, rfl, z4⟩⟩
  rw [one_y b2]
  dsimp only
  rw [if10, if10]
  rcases take_sim L b7 24 24 24 (by decide) (by decide) rfl rfl with ⟨c1, c2, c3, c4, c5, -, c7⟩ | ⟨c1, c2, c3⟩
  · rw [if_pos c2, if_pos c2, pass_eq]
    dsimp only
    have hk3 : ¬ ((m.next g (nI N)).next g (nI N)).kd = 30 := by rw [c2]; decide
    rcases take_sim L c7 2 2 15 (by decide) (by decide) rfl rfl with ⟨d1, d2, d3, d4, d5, ⟨v, d6, d8⟩, d7⟩ | ⟨d1, d2, d3⟩
    case inr =>
      obtain ⟨f1, f2, f3⟩ := hfail (t0 + 1 + 1 + 1 + 1) (by unfold s_Par_range; rw [b1]; dsimp only; rw [if10, c1]; dsimp only; rw [if10, d1]; rfl) (by unfold s_Par_range; rw [b1]; dsimp only; rw [if10, c1]; dsimp only; rw [if10, d1]; rfl)
      obtain ⟨k, -, -, -, z4, -, -⟩ := c7.view L
      rw [one_n d2]
      dsimp only
      rw [if_pos (show (0 : Int32) = 0 from rfl), if_pos (show (0 : Int32) = 0 from rfl)]
      exact ⟨f1, ⟨ocol, hpi1, hk3, hin, trivial⟩, Or.inr ⟨t0 + 1 + 1 + 1 + 1, f2, f3, c7.1, rfl, z4⟩⟩
    rw [one_y d2]
    dsimp only
    rw [if10, if10]
    rcases take_sim L d7 10 10 7 (by decide) (by decide) rfl rfl with ⟨x1, x2, x3, x4, x5, -, x7⟩ | ⟨x1, x2, x3⟩
    case inr =>
      obtain ⟨f1, f2, f3⟩ := hfail (t0 + 1 + 1 + 1 + 1 + 1) (by unfold s_Par_range; rw [b1]; dsimp only; rw [if10, c1]; dsimp only; rw [if10, d1]; dsimp only; rw [if10, x1]; rfl) (by unfold s_Par_range; rw [b1]; dsimp only; rw [if10, c1]; dsimp only; rw [if10, d1]; dsimp only; rw [if10, x1]; rfl)
      obtain ⟨k, -, -, -, z4, -, -⟩ := d7.view L
      rw [one_n x2]
      dsimp only
      rw [if_pos (show (0 : Int32) = 0 from rfl), if_pos (show (0 : Int32) = 0 from rfl)]
      exact ⟨f1, ⟨ocol, hpi1, hk3, hin, trivial⟩, Or.inr ⟨t0 + 1 + 1 + 1 + 1 + 1, f2, f3, d7.1, rfl, z4⟩⟩
    rw [one_y x2]
    dsimp only
    rw [if10, if10]
    have hlo : (-1) * s_Par_value V (nI (t0 + 1 + 1 + 1 + 1)) = -(((m.next g (nI N)).next g (nI N)).next g (nI N)).vl := by
      rw [par_value (by omega), ← d5, neg_m]
    rcases take_sim L x7 24 24 24 (by decide) (by decide) rfl rfl with ⟨y1, y2, y3, y4, y5, -, y7⟩ | ⟨y1, y2, y3⟩
    · rw [if_pos y2, if_pos y2, pass_eq]
      dsimp only
      have hk5 : ¬ (((((m.next g (nI N)).next g (nI N)).next g (nI N)).next g (nI N)).next g (nI N)).kd = 30 := by rw [y2]; decide
      have hrng : s_Par_range K V (nI (t0 + 1 + 1)) 0 0 = rngE K V (nI (t0 + 1 + 1 + 1 + 1 + 1 + 1 + 1)) (-(((m.next g (nI N)).next g (nI N)).next g (nI N)).vl) (-1) := by
        rw [← hlo]
        unfold s_Par_range; rw [b1]; dsimp only; rw [if10, c1]; dsimp only; rw [if10, d1]; dsimp only; rw [if10, x1]; dsimp only; rw [if10, y1]; dsimp only; rw [if10]; rfl
      have hhi : (-1) * ((((((m.next g (nI N)).next g (nI N)).next g (nI N)).next g (nI N)).next g (nI N)).next g (nI N)).vl = -((((((m.next g (nI N)).next g (nI N)).next g (nI N)).next g (nI N)).next g (nI N)).next g (nI N)).vl := neg_m _
      obtain ⟨kk, -, -, -, zz, -, -⟩ := y7.view L
      simp only [pk_us]
      rcases rngE_sim L y7 (-(((m.next g (nI N)).next g (nI N)).next g (nI N)).vl) (-1) with ⟨v', r1, r2, r3, r4, r5, r6, r7⟩ | ⟨r1, r2, r3⟩
      · rw [← r3, hhi] at r4 r5 r6
        rw [if_pos r2, if_pos r2, if_neg r4, if_neg r4, if_pos r5, if_pos r5, pass_eq]
        dsimp only
        have hk7 : ¬ ((((((m.next g (nI N)).next g (nI N)).next g (nI N)).next g (nI N)).next g (nI N)).next g (nI N)).kd = 30 := by rw [r2]; decide
        obtain ⟨sp, s1, s2⟩ := span20 r4 r5
        obtain ⟨w1, w2, w3⟩ := where_sim (S := S) (W := W) (tp := tp) (bg := bg) (en := en) (Q := Q) (j := j) (cs := cs) (m := (((((((m.next g (nI N)).next g (nI N)).next g (nI N)).next g (nI N)).next g (nI N)).next g (nI N)).next g (nI N))) L R hq (by omega) (hgood _ _ _ (hrng.trans r6) _ _ _ _ _ _ _ _) r7 hj hj2 hs (by omega)
        have w3' : QsR g K V P N n e Lc (((((((m.next g (nI N)).next g (nI N)).next g (nI N)).next g (nI N)).next g (nI N)).next g (nI N)).next g (nI N)) (t0 + 1 + 1 + 1 + 1 + 1 + 1 + 1 + 1) cs nq S W Q (fun x y z => qF 2 (nI c) (-(((m.next g (nI N)).next g (nI N)).next g (nI N)).vl) (-((((((m.next g (nI N)).next g (nI N)).next g (nI N)).next g (nI N)).next g (nI N)).next g (nI N)).vl) 1 x y z) tp bg en (s_Par_asks K V S W (nI cs) Q (nI nq) LO (nI t0) (nI j)) (s_Mo_readWhere g (nI N) (((((((m.next g (nI N)).next g (nI N)).next g (nI N)).next g (nI N)).next g (nI N)).next g (nI N)).next g (nI N)).ks (((((((m.next g (nI N)).next g (nI N)).next g (nI N)).next g (nI N)).next g (nI N)).next g (nI N)).next g (nI N)).vs (((((((m.next g (nI N)).next g (nI N)).next g (nI N)).next g (nI N)).next g (nI N)).next g (nI N)).next g (nI N)).tk (((((((m.next g (nI N)).next g (nI N)).next g (nI N)).next g (nI N)).next g (nI N)).next g (nI N)).next g (nI N)).at_ (((((((m.next g (nI N)).next g (nI N)).next g (nI N)).next g (nI N)).next g (nI N)).next g (nI N)).next g (nI N)).pl (((((((m.next g (nI N)).next g (nI N)).next g (nI N)).next g (nI N)).next g (nI N)).next g (nI N)).next g (nI N)).kd (((((((m.next g (nI N)).next g (nI N)).next g (nI N)).next g (nI N)).next g (nI N)).next g (nI N)).next g (nI N)).vl m.dp m.js told lo m.co m.sz tp bg en m.go m.wi m.gc (nI nq)) := w3
        refine ⟨w1, ⟨ocol, hpi1, hk3, hin, hk5, hin, hin, hin, hin, hin, hk7, w2, ?_⟩, Or.inl ⟨c, _, sp, _, _, _, _, hc6, s1, s2, ?_, rfl, su_if w3'.fst, w3'⟩⟩
        · split <;> trivial
        · omega
      · obtain ⟨f1, f2, f3⟩ := hfail (t0 + 1 + 1 + 1 + 1 + 1 + 1 + 1) (by rw [hrng]; exact r1) (by rw [hrng]; exact r2)
        rw [hhi] at r3
        by_cases k15 : ((((((m.next g (nI N)).next g (nI N)).next g (nI N)).next g (nI N)).next g (nI N)).next g (nI N)).kd = 15
        · rw [if_pos k15, if_pos k15]
          by_cases kl : -((((((m.next g (nI N)).next g (nI N)).next g (nI N)).next g (nI N)).next g (nI N)).next g (nI N)).vl < -(((m.next g (nI N)).next g (nI N)).next g (nI N)).vl
          · rw [if_pos kl, if_pos kl]
            exact ⟨f1, ⟨ocol, hpi1, hk3, hin, hk5, hin, hin, hin, trivial⟩, Or.inr ⟨t0 + 1 + 1 + 1 + 1 + 1 + 1 + 1, f2, f3, y7.1, rfl, zz⟩⟩
          · have kc := r3 k15 kl
            rw [if_neg kl, if_neg kl, if_neg kc, if_neg kc]
            exact ⟨f1, ⟨ocol, hpi1, hk3, hin, hk5, hin, hin, hin, hin, hin, trivial⟩, Or.inr ⟨t0 + 1 + 1 + 1 + 1 + 1 + 1 + 1, f2, f3, y7.1, rfl, zz⟩⟩
        · rw [if_neg k15, if_neg k15]
          exact ⟨f1, ⟨ocol, hpi1, hk3, hin, hk5, hin, trivial⟩, Or.inr ⟨t0 + 1 + 1 + 1 + 1 + 1 + 1 + 1, f2, f3, y7.1, rfl, zz⟩⟩
    · rw [if_neg y2, if_neg y2]
      dsimp only
      have hrng : s_Par_range K V (nI (t0 + 1 + 1)) 0 0 = rngE K V (nI (t0 + 1 + 1 + 1 + 1 + 1 + 1)) (-(((m.next g (nI N)).next g (nI N)).next g (nI N)).vl) 1 := by
        rw [← hlo]
        unfold s_Par_range; rw [b1]; dsimp only; rw [if10, c1]; dsimp only; rw [if10, d1]; dsimp only; rw [if10, x1]; dsimp only; rw [if10, y1]; dsimp only; rw [if_pos (show (0 : Int32) = 0 from rfl)]; rfl
      have hhi : 1 * (((((m.next g (nI N)).next g (nI N)).next g (nI N)).next g (nI N)).next g (nI N)).vl = (((((m.next g (nI N)).next g (nI N)).next g (nI N)).next g (nI N)).next g (nI N)).vl := one_m _
      obtain ⟨kk, -, -, -, zz, -, -⟩ := x7.view L
      simp only [pk_us]
      rcases rngE_sim L x7 (-(((m.next g (nI N)).next g (nI N)).next g (nI N)).vl) 1 with ⟨v', r1, r2, r3, r4, r5, r6, r7⟩ | ⟨r1, r2, r3⟩
      · rw [← r3, hhi] at r4 r5 r6
        rw [if_pos r2, if_pos r2, if_neg r4, if_neg r4, if_pos r5, if_pos r5, pass_eq]
        dsimp only
        have hk7 : ¬ (((((m.next g (nI N)).next g (nI N)).next g (nI N)).next g (nI N)).next g (nI N)).kd = 30 := by rw [r2]; decide
        obtain ⟨sp, s1, s2⟩ := span20 r4 r5
        obtain ⟨w1, w2, w3⟩ := where_sim (S := S) (W := W) (tp := tp) (bg := bg) (en := en) (Q := Q) (j := j) (cs := cs) (m := ((((((m.next g (nI N)).next g (nI N)).next g (nI N)).next g (nI N)).next g (nI N)).next g (nI N))) L R hq (by omega) (hgood _ _ _ (hrng.trans r6) _ _ _ _ _ _ _ _) r7 hj hj2 hs (by omega)
        have w3' : QsR g K V P N n e Lc ((((((m.next g (nI N)).next g (nI N)).next g (nI N)).next g (nI N)).next g (nI N)).next g (nI N)) (t0 + 1 + 1 + 1 + 1 + 1 + 1 + 1) cs nq S W Q (fun x y z => qF 2 (nI c) (-(((m.next g (nI N)).next g (nI N)).next g (nI N)).vl) ((((((m.next g (nI N)).next g (nI N)).next g (nI N)).next g (nI N)).next g (nI N)).vl) 1 x y z) tp bg en (s_Par_asks K V S W (nI cs) Q (nI nq) LO (nI t0) (nI j)) (s_Mo_readWhere g (nI N) ((((((m.next g (nI N)).next g (nI N)).next g (nI N)).next g (nI N)).next g (nI N)).next g (nI N)).ks ((((((m.next g (nI N)).next g (nI N)).next g (nI N)).next g (nI N)).next g (nI N)).next g (nI N)).vs ((((((m.next g (nI N)).next g (nI N)).next g (nI N)).next g (nI N)).next g (nI N)).next g (nI N)).tk ((((((m.next g (nI N)).next g (nI N)).next g (nI N)).next g (nI N)).next g (nI N)).next g (nI N)).at_ ((((((m.next g (nI N)).next g (nI N)).next g (nI N)).next g (nI N)).next g (nI N)).next g (nI N)).pl ((((((m.next g (nI N)).next g (nI N)).next g (nI N)).next g (nI N)).next g (nI N)).next g (nI N)).kd ((((((m.next g (nI N)).next g (nI N)).next g (nI N)).next g (nI N)).next g (nI N)).next g (nI N)).vl m.dp m.js told lo m.co m.sz tp bg en m.go m.wi m.gc (nI nq)) := w3
        refine ⟨w1, ⟨ocol, hpi1, hk3, hin, hin, hin, hin, hin, hin, hk7, w2, ?_⟩, Or.inl ⟨c, _, sp, _, _, _, _, hc6, s1, s2, ?_, rfl, su_if w3'.fst, w3'⟩⟩
        · split <;> trivial
        · omega
      · obtain ⟨f1, f2, f3⟩ := hfail (t0 + 1 + 1 + 1 + 1 + 1 + 1) (by rw [hrng]; exact r1) (by rw [hrng]; exact r2)
        rw [hhi] at r3
        by_cases k15 : (((((m.next g (nI N)).next g (nI N)).next g (nI N)).next g (nI N)).next g (nI N)).kd = 15
        · rw [if_pos k15, if_pos k15]
          by_cases kl : (((((m.next g (nI N)).next g (nI N)).next g (nI N)).next g (nI N)).next g (nI N)).vl < -(((m.next g (nI N)).next g (nI N)).next g (nI N)).vl
          · rw [if_pos kl, if_pos kl]
            exact ⟨f1, ⟨ocol, hpi1, hk3, hin, hin, hin, hin, trivial⟩, Or.inr ⟨t0 + 1 + 1 + 1 + 1 + 1 + 1, f2, f3, x7.1, rfl, zz⟩⟩
          · have kc := r3 k15 kl
            rw [if_neg kl, if_neg kl, if_neg kc, if_neg kc]
            exact ⟨f1, ⟨ocol, hpi1, hk3, hin, hin, hin, hin, hin, hin, trivial⟩, Or.inr ⟨t0 + 1 + 1 + 1 + 1 + 1 + 1, f2, f3, x7.1, rfl, zz⟩⟩
        · rw [if_neg k15, if_neg k15]
          exact ⟨f1, ⟨ocol, hpi1, hk3, hin, hin, trivial⟩, Or.inr ⟨t0 + 1 + 1 + 1 + 1 + 1 + 1, f2, f3, x7.1, rfl, zz⟩⟩
  · rw [if_neg c2, if_neg c2]
    dsimp only
    rcases take_sim L b7 2 2 15 (by decide) (by decide) rfl rfl with ⟨d1, d2, d3, d4, d5, ⟨v, d6, d8⟩, d7⟩ | ⟨d1, d2, d3⟩
    case inr =>
      obtain ⟨f1, f2, f3⟩ := hfail (t0 + 1 + 1 + 1) (by unfold s_Par_range; rw [b1]; dsimp only; rw [if10, c1]; dsimp only; rw [if_pos (show (0 : Int32) = 0 from rfl), d1]; rfl) (by unfold s_Par_range; rw [b1]; dsimp only; rw [if10, c1]; dsimp only; rw [if_pos (show (0 : Int32) = 0 from rfl), d1]; rfl)
      obtain ⟨k, -, -, -, z4, -, -⟩ := b7.view L
      rw [one_n d2]
      dsimp only
      rw [if_pos (show (0 : Int32) = 0 from rfl), if_pos (show (0 : Int32) = 0 from rfl)]
      exact ⟨f1, ⟨ocol, hpi1, hin, trivial⟩, Or.inr ⟨t0 + 1 + 1 + 1, f2, f3, b7.1, rfl, z4⟩⟩
    rw [one_y d2]
    dsimp only
    rw [if10, if10]
    rcases take_sim L d7 10 10 7 (by decide) (by decide) rfl rfl with ⟨x1, x2, x3, x4, x5, -, x7⟩ | ⟨x1, x2, x3⟩
    case inr =>
      obtain ⟨f1, f2, f3⟩ := hfail (t0 + 1 + 1 + 1 + 1) (by unfold s_Par_range; rw [b1]; dsimp only; rw [if10, c1]; dsimp only; rw [if_pos (show (0 : Int32) = 0 from rfl), d1]; dsimp only; rw [if10, x1]; rfl) (by unfold s_Par_range; rw [b1]; dsimp only; rw [if10, c1]; dsimp only; rw [if_pos (show (0 : Int32) = 0 from rfl), d1]; dsimp only; rw [if10, x1]; rfl)
      obtain ⟨k, -, -, -, z4, -, -⟩ := d7.view L
      rw [one_n x2]
      dsimp only
      rw [if_pos (show (0 : Int32) = 0 from rfl), if_pos (show (0 : Int32) = 0 from rfl)]
      exact ⟨f1, ⟨ocol, hpi1, hin, trivial⟩, Or.inr ⟨t0 + 1 + 1 + 1 + 1, f2, f3, d7.1, rfl, z4⟩⟩
    rw [one_y x2]
    dsimp only
    rw [if10, if10]
    have hlo : 1 * s_Par_value V (nI (t0 + 1 + 1 + 1)) = ((m.next g (nI N)).next g (nI N)).vl := by
      rw [par_value (by omega), ← d5, one_m]
    rcases take_sim L x7 24 24 24 (by decide) (by decide) rfl rfl with ⟨y1, y2, y3, y4, y5, -, y7⟩ | ⟨y1, y2, y3⟩
    · rw [if_pos y2, if_pos y2, pass_eq]
      dsimp only
      have hk5 : ¬ ((((m.next g (nI N)).next g (nI N)).next g (nI N)).next g (nI N)).kd = 30 := by rw [y2]; decide
      have hrng : s_Par_range K V (nI (t0 + 1 + 1)) 0 0 = rngE K V (nI (t0 + 1 + 1 + 1 + 1 + 1 + 1)) (((m.next g (nI N)).next g (nI N)).vl) (-1) := by
        rw [← hlo]
        unfold s_Par_range; rw [b1]; dsimp only; rw [if10, c1]; dsimp only; rw [if_pos (show (0 : Int32) = 0 from rfl), d1]; dsimp only; rw [if10, x1]; dsimp only; rw [if10, y1]; dsimp only; rw [if10]; rfl
      have hhi : (-1) * (((((m.next g (nI N)).next g (nI N)).next g (nI N)).next g (nI N)).next g (nI N)).vl = -(((((m.next g (nI N)).next g (nI N)).next g (nI N)).next g (nI N)).next g (nI N)).vl := neg_m _
      obtain ⟨kk, -, -, -, zz, -, -⟩ := y7.view L
      simp only [pk_us]
      rcases rngE_sim L y7 (((m.next g (nI N)).next g (nI N)).vl) (-1) with ⟨v', r1, r2, r3, r4, r5, r6, r7⟩ | ⟨r1, r2, r3⟩
      · rw [← r3, hhi] at r4 r5 r6
        rw [if_pos r2, if_pos r2, if_neg r4, if_neg r4, if_pos r5, if_pos r5, pass_eq]
        dsimp only
        have hk7 : ¬ (((((m.next g (nI N)).next g (nI N)).next g (nI N)).next g (nI N)).next g (nI N)).kd = 30 := by rw [r2]; decide
        obtain ⟨sp, s1, s2⟩ := span20 r4 r5
        obtain ⟨w1, w2, w3⟩ := where_sim (S := S) (W := W) (tp := tp) (bg := bg) (en := en) (Q := Q) (j := j) (cs := cs) (m := ((((((m.next g (nI N)).next g (nI N)).next g (nI N)).next g (nI N)).next g (nI N)).next g (nI N))) L R hq (by omega) (hgood _ _ _ (hrng.trans r6) _ _ _ _ _ _ _ _) r7 hj hj2 hs (by omega)
        have w3' : QsR g K V P N n e Lc ((((((m.next g (nI N)).next g (nI N)).next g (nI N)).next g (nI N)).next g (nI N)).next g (nI N)) (t0 + 1 + 1 + 1 + 1 + 1 + 1 + 1) cs nq S W Q (fun x y z => qF 2 (nI c) (((m.next g (nI N)).next g (nI N)).vl) (-(((((m.next g (nI N)).next g (nI N)).next g (nI N)).next g (nI N)).next g (nI N)).vl) 1 x y z) tp bg en (s_Par_asks K V S W (nI cs) Q (nI nq) LO (nI t0) (nI j)) (s_Mo_readWhere g (nI N) ((((((m.next g (nI N)).next g (nI N)).next g (nI N)).next g (nI N)).next g (nI N)).next g (nI N)).ks ((((((m.next g (nI N)).next g (nI N)).next g (nI N)).next g (nI N)).next g (nI N)).next g (nI N)).vs ((((((m.next g (nI N)).next g (nI N)).next g (nI N)).next g (nI N)).next g (nI N)).next g (nI N)).tk ((((((m.next g (nI N)).next g (nI N)).next g (nI N)).next g (nI N)).next g (nI N)).next g (nI N)).at_ ((((((m.next g (nI N)).next g (nI N)).next g (nI N)).next g (nI N)).next g (nI N)).next g (nI N)).pl ((((((m.next g (nI N)).next g (nI N)).next g (nI N)).next g (nI N)).next g (nI N)).next g (nI N)).kd ((((((m.next g (nI N)).next g (nI N)).next g (nI N)).next g (nI N)).next g (nI N)).next g (nI N)).vl m.dp m.js told lo m.co m.sz tp bg en m.go m.wi m.gc (nI nq)) := w3
        refine ⟨w1, ⟨ocol, hpi1, hin, hk5, hin, hin, hin, hin, hin, hk7, w2, ?_⟩, Or.inl ⟨c, _, sp, _, _, _, _, hc6, s1, s2, ?_, rfl, su_if w3'.fst, w3'⟩⟩
        · split <;> trivial
        · omega
      · obtain ⟨f1, f2, f3⟩ := hfail (t0 + 1 + 1 + 1 + 1 + 1 + 1) (by rw [hrng]; exact r1) (by rw [hrng]; exact r2)
        rw [hhi] at r3
        by_cases k15 : (((((m.next g (nI N)).next g (nI N)).next g (nI N)).next g (nI N)).next g (nI N)).kd = 15
        · rw [if_pos k15, if_pos k15]
          by_cases kl : -(((((m.next g (nI N)).next g (nI N)).next g (nI N)).next g (nI N)).next g (nI N)).vl < ((m.next g (nI N)).next g (nI N)).vl
          · rw [if_pos kl, if_pos kl]
            exact ⟨f1, ⟨ocol, hpi1, hin, hk5, hin, hin, hin, trivial⟩, Or.inr ⟨t0 + 1 + 1 + 1 + 1 + 1 + 1, f2, f3, y7.1, rfl, zz⟩⟩
          · have kc := r3 k15 kl
            rw [if_neg kl, if_neg kl, if_neg kc, if_neg kc]
            exact ⟨f1, ⟨ocol, hpi1, hin, hk5, hin, hin, hin, hin, hin, trivial⟩, Or.inr ⟨t0 + 1 + 1 + 1 + 1 + 1 + 1, f2, f3, y7.1, rfl, zz⟩⟩
        · rw [if_neg k15, if_neg k15]
          exact ⟨f1, ⟨ocol, hpi1, hin, hk5, hin, trivial⟩, Or.inr ⟨t0 + 1 + 1 + 1 + 1 + 1 + 1, f2, f3, y7.1, rfl, zz⟩⟩
    · rw [if_neg y2, if_neg y2]
      dsimp only
      have hrng : s_Par_range K V (nI (t0 + 1 + 1)) 0 0 = rngE K V (nI (t0 + 1 + 1 + 1 + 1 + 1)) (((m.next g (nI N)).next g (nI N)).vl) 1 := by
        rw [← hlo]
        unfold s_Par_range; rw [b1]; dsimp only; rw [if10, c1]; dsimp only; rw [if_pos (show (0 : Int32) = 0 from rfl), d1]; dsimp only; rw [if10, x1]; dsimp only; rw [if10, y1]; dsimp only; rw [if_pos (show (0 : Int32) = 0 from rfl)]; rfl
      have hhi : 1 * ((((m.next g (nI N)).next g (nI N)).next g (nI N)).next g (nI N)).vl = ((((m.next g (nI N)).next g (nI N)).next g (nI N)).next g (nI N)).vl := one_m _
      obtain ⟨kk, -, -, -, zz, -, -⟩ := x7.view L
      simp only [pk_us]
      rcases rngE_sim L x7 (((m.next g (nI N)).next g (nI N)).vl) 1 with ⟨v', r1, r2, r3, r4, r5, r6, r7⟩ | ⟨r1, r2, r3⟩
      · rw [← r3, hhi] at r4 r5 r6
        rw [if_pos r2, if_pos r2, if_neg r4, if_neg r4, if_pos r5, if_pos r5, pass_eq]
        dsimp only
        have hk7 : ¬ ((((m.next g (nI N)).next g (nI N)).next g (nI N)).next g (nI N)).kd = 30 := by rw [r2]; decide
        obtain ⟨sp, s1, s2⟩ := span20 r4 r5
        obtain ⟨w1, w2, w3⟩ := where_sim (S := S) (W := W) (tp := tp) (bg := bg) (en := en) (Q := Q) (j := j) (cs := cs) (m := (((((m.next g (nI N)).next g (nI N)).next g (nI N)).next g (nI N)).next g (nI N))) L R hq (by omega) (hgood _ _ _ (hrng.trans r6) _ _ _ _ _ _ _ _) r7 hj hj2 hs (by omega)
        have w3' : QsR g K V P N n e Lc (((((m.next g (nI N)).next g (nI N)).next g (nI N)).next g (nI N)).next g (nI N)) (t0 + 1 + 1 + 1 + 1 + 1 + 1) cs nq S W Q (fun x y z => qF 2 (nI c) (((m.next g (nI N)).next g (nI N)).vl) (((((m.next g (nI N)).next g (nI N)).next g (nI N)).next g (nI N)).vl) 1 x y z) tp bg en (s_Par_asks K V S W (nI cs) Q (nI nq) LO (nI t0) (nI j)) (s_Mo_readWhere g (nI N) (((((m.next g (nI N)).next g (nI N)).next g (nI N)).next g (nI N)).next g (nI N)).ks (((((m.next g (nI N)).next g (nI N)).next g (nI N)).next g (nI N)).next g (nI N)).vs (((((m.next g (nI N)).next g (nI N)).next g (nI N)).next g (nI N)).next g (nI N)).tk (((((m.next g (nI N)).next g (nI N)).next g (nI N)).next g (nI N)).next g (nI N)).at_ (((((m.next g (nI N)).next g (nI N)).next g (nI N)).next g (nI N)).next g (nI N)).pl (((((m.next g (nI N)).next g (nI N)).next g (nI N)).next g (nI N)).next g (nI N)).kd (((((m.next g (nI N)).next g (nI N)).next g (nI N)).next g (nI N)).next g (nI N)).vl m.dp m.js told lo m.co m.sz tp bg en m.go m.wi m.gc (nI nq)) := w3
        refine ⟨w1, ⟨ocol, hpi1, hin, hin, hin, hin, hin, hin, hk7, w2, ?_⟩, Or.inl ⟨c, _, sp, _, _, _, _, hc6, s1, s2, ?_, rfl, su_if w3'.fst, w3'⟩⟩
        · split <;> trivial
        · omega
      · obtain ⟨f1, f2, f3⟩ := hfail (t0 + 1 + 1 + 1 + 1 + 1) (by rw [hrng]; exact r1) (by rw [hrng]; exact r2)
        rw [hhi] at r3
        by_cases k15 : ((((m.next g (nI N)).next g (nI N)).next g (nI N)).next g (nI N)).kd = 15
        · rw [if_pos k15, if_pos k15]
          by_cases kl : ((((m.next g (nI N)).next g (nI N)).next g (nI N)).next g (nI N)).vl < ((m.next g (nI N)).next g (nI N)).vl
          · rw [if_pos kl, if_pos kl]
            exact ⟨f1, ⟨ocol, hpi1, hin, hin, hin, hin, trivial⟩, Or.inr ⟨t0 + 1 + 1 + 1 + 1 + 1, f2, f3, x7.1, rfl, zz⟩⟩
          · have kc := r3 k15 kl
            rw [if_neg kl, if_neg kl, if_neg kc, if_neg kc]
            exact ⟨f1, ⟨ocol, hpi1, hin, hin, hin, hin, hin, hin, trivial⟩, Or.inr ⟨t0 + 1 + 1 + 1 + 1 + 1, f2, f3, x7.1, rfl, zz⟩⟩
        · rw [if_neg k15, if_neg k15]
          exact ⟨f1, ⟨ocol, hpi1, hin, hin, trivial⟩, Or.inr ⟨t0 + 1 + 1 + 1 + 1 + 1, f2, f3, x7.1, rfl, zz⟩⟩
end TOP5
