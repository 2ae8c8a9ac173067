/-! bins -/
section TOP5
variable {g K V P : Nat → Int32} {N n : Nat} {e pos : Nat → Nat} {LO told lo : Nat → Int32} {Lc : Nat}
theorem d64 (a b : Int32) : (a.toInt64 - b.toInt64).toInt = a.toInt - b.toInt := by
  rw [Int64.toInt_sub, Int32.toInt_toInt64, Int32.toInt_toInt64]
  have h1 := Int32.le_toInt a
  have h2 := Int32.toInt_lt a
  have h3 := Int32.le_toInt b
  have h4 := Int32.toInt_lt b
  exact Int.bmod_eq_of_le (by omega) (by omega)
theorem lt0 (a b : Int32) : lg_cmp (a.toInt64 - b.toInt64) 0 < 0 ↔ a < b := by
  rw [lg_cmp_lt, Int64.lt_iff_toInt_lt, d64, show (0 : Int64).toInt = 0 by decide, Int32.lt_iff_toInt_lt]
  omega
theorem ge20 (x : Int64) : (0 ≤ lg_cmp x 20) ↔ ¬ lg_cmp x 20 < 0 := by
  rw [lg_cmp_ge, lg_cmp_lt, Int64.le_iff_toInt_le, Int64.lt_iff_toInt_lt]
  omega
theorem span20 {a b : Int32} (h1 : ¬ a < b) (h2 : lg_cmp (a.toInt64 - b.toInt64) 20 < 0) : ∃ k : Nat, k < 20 ∧ a.toInt = b.toInt + k := by
  rw [Int32.lt_iff_toInt_lt] at h1
  rw [lg_cmp_lt, Int64.lt_iff_toInt_lt, d64, show (20 : Int64).toInt = 20 by decide] at h2
  exact ⟨(a.toInt - b.toInt).toNat, by omega, by omega⟩
theorem one_m (x : Int32) : 1 * x = x := Int32.one_mul x
theorem neg_m (x : Int32) : (-1) * x = -x := by
  apply Int32.toInt_inj.mp
  rw [Int32.toInt_mul, Int32.toInt_neg, show (-1 : Int32).toInt = -1 by decide, Int.neg_mul, Int.one_mul]
/-- the end of a range: the upper number -/
def rngE (K V : Nat → Int32) (t X s : Int32) : Int32 × Int32 × Int32 × Int32 :=
  if (lg_cmp (((s * s_Par_value V t).toInt64) - (X.toInt64)) 0) < 0 then (0, t, X, s * s_Par_value V t)
  else if 0 ≤ (lg_cmp (((s * s_Par_value V t).toInt64) - (X.toInt64)) 20) then (0, t, X, s * s_Par_value V t)
  else if (s_Par_take K t 2).1 = 0 then (0, (s_Par_take K t 2).2, X, s * s_Par_value V t)
  else (1, (s_Par_take K t 2).2, X, s * s_Par_value V t)
theorem rngE_sim (L : LexR g K V P N n e pos) {m : MS} {t : Nat} (hat : At g K V N n e m t) (X s : Int32) :
    (∃ v : Nat, v < 2 ^ 31 ∧ m.kd = 15 ∧ m.vl = nI v ∧ ¬ s * nI v < X ∧ lg_cmp ((s * nI v).toInt64 - X.toInt64) 20 < 0 ∧ rngE K V (nI t) X s = (1, nI (t + 1), X, s * nI v) ∧ ∃ m1 : MS, Nx g N m m1 ∧ At g K V N n e m1 (t + 1)) ∨
    ((rngE K V (nI t) X s).1 = 0 ∧ (rngE K V (nI t) X s).2.1 = nI t ∧ (m.kd = 15 → ¬ s * m.vl < X → ¬ lg_cmp ((s * m.vl).toInt64 - X.toInt64) 20 < 0)) := by
  have hn := L.le
  have hN := L.hN
  have ht := hat.1
  unfold rngE
  rw [par_value (show t ≤ 2000 by omega)]
  rcases take_sim L hat 2 2 15 (by decide) (by decide) rfl rfl with ⟨a1, a2, a3, a4, a5, ⟨v, a6, a8⟩, a7⟩ | ⟨a1, a2, a3⟩
  · rw [a1, a5, a8]
    by_cases c1 : s * nI v < X
    · rw [if_pos ((lt0 _ _).mpr c1)]
      exact Or.inr ⟨rfl, rfl, fun _ q => absurd c1 q⟩
    · rw [if_neg (fun q => c1 ((lt0 _ _).mp q))]
      by_cases c2 : lg_cmp ((s * nI v).toInt64 - X.toInt64) 20 < 0
      · rw [if_neg (fun q => (ge20 _).mp q c2)]
        dsimp only
        rw [if10]
        exact Or.inl ⟨v, a6.2.2.1, a2, rfl, c1, c2, rfl, a7⟩
      · rw [if_pos ((ge20 _).mpr c2)]
        exact Or.inr ⟨rfl, rfl, fun _ _ => c2⟩
  · refine Or.inr ?_
    rw [a1]
    dsimp only
    rw [if_pos (show (0 : Int32) = 0 from rfl)]
    refine ⟨?_, ?_, fun q => absurd q a2⟩
    · split
      · rfl
      · split <;> rfl
    · split
      · rfl
      · split <;> rfl
theorem su_if {w : WT} {a b c : Nat → Int32} (h : w.1 = 0 ∨ w.1 = 1) : (if w.1 = 0 then ((0 : Int32), w.2.1, w.2.2.1, w.2.2.2.1, w.2.2.2.2.1, w.2.2.2.2.2.1, w.2.2.2.2.2.2.1, w.2.2.2.2.2.2.2.1, w.2.2.2.2.2.2.2.2.1, w.2.2.2.2.2.2.2.2.2.1, w.2.2.2.2.2.2.2.2.2.2.1, w.2.2.2.2.2.2.2.2.2.2.2.1, w.2.2.2.2.2.2.2.2.2.2.2.2.1, a, b, c, w.2.2.2.2.2.2.2.2.2.2.2.2.2.1, w.2.2.2.2.2.2.2.2.2.2.2.2.2.2.1, w.2.2.2.2.2.2.2.2.2.2.2.2.2.2.2.1, w.2.2.2.2.2.2.2.2.2.2.2.2.2.2.2.2.1, w.2.2.2.2.2.2.2.2.2.2.2.2.2.2.2.2.2) else (1, w.2.1, w.2.2.1, w.2.2.2.1, w.2.2.2.2.1, w.2.2.2.2.2.1, w.2.2.2.2.2.2.1, w.2.2.2.2.2.2.2.1, w.2.2.2.2.2.2.2.2.1, w.2.2.2.2.2.2.2.2.2.1, w.2.2.2.2.2.2.2.2.2.2.1, w.2.2.2.2.2.2.2.2.2.2.2.1, w.2.2.2.2.2.2.2.2.2.2.2.2.1, a, b, c, w.2.2.2.2.2.2.2.2.2.2.2.2.2.1, w.2.2.2.2.2.2.2.2.2.2.2.2.2.2.1, w.2.2.2.2.2.2.2.2.2.2.2.2.2.2.2.1, w.2.2.2.2.2.2.2.2.2.2.2.2.2.2.2.2.1, w.2.2.2.2.2.2.2.2.2.2.2.2.2.2.2.2.2)) = suT w a b c := by
  unfold suT
  rcases h with h | h
  · rw [if_pos h, h]
  · rw [if_neg (by rw [h]; decide), h]
theorem QsR.fst {m : MS} {t cs nq : Nat} {S W : Nat → Int32} {Q : Nat → Nat → Int32} {F : Int32 → Int32 → Int32 → Nat → Int32} {tp bg en : Nat → Int32} {r : AT} {w : WT} (h : QsR g K V P N n e Lc m t cs nq S W Q F tp bg en r w) : w.1 = 0 ∨ w.1 = 1 := by
  rcases h with ⟨_, _, _, _, _, _, _, _, _, rfl, _⟩ | ⟨_, _, _, _, _, _, _, _, rfl, _⟩
  · exact Or.inr rfl
  · exact Or.inl rfl
set_option maxHeartbeats 40000000 in
set_option maxRecDepth 100000 in
theorem bins_top (L : LexR g K V P N n e pos) (R : LetR LO told lo Lc) {m : MS} {t0 j cs nq : Nat} {S W co lw hi tp bg en : Nat → Int32} {Q : Nat → Nat → Int32} (hq : nq < 12) (hK : K t0 = nI 8) (hat : At g K V N n e m (t0 + 1)) (hj : m.js = nI j) (hj2 : j ≤ 150) (hs : m.sz = nI (2 * cs)) (hc : cs ≤ t0) :
    ok_Par_asks K V S W (nI cs) Q (nI nq) LO (nI t0) (nI j) ∧ ok_Mo_readBins g (nI N) m.ks m.vs m.tk m.at_ m.pl m.kd m.vl m.dp m.js told lo m.co m.sz co lw hi tp bg en m.go m.wi m.gc (nI nq) ∧
    ((∃ (c t w' : Nat) (X Y : Int32) (m' : MS) (w : WT), c < 6 ∧ w' < 20 ∧ Y.toInt = X.toInt + w' ∧ t0 + 1 ≤ t ∧ m'.co = m.co ∧ s_Mo_readBins g (nI N) m.ks m.vs m.tk m.at_ m.pl m.kd m.vl m.dp m.js told lo m.co m.sz co lw hi tp bg en m.go m.wi m.gc (nI nq) = suT w (upd co nq (nI c)) (upd lw nq X) (upd hi nq Y) ∧ QsR g K V P N n e Lc m' t cs nq S W Q (fun x y z => qF 2 (nI c) X Y 1 x y z) tp bg en (s_Par_asks K V S W (nI cs) Q (nI nq) LO (nI t0) (nI j)) w) ∨
     (∃ t' : Nat, (s_Par_asks K V S W (nI cs) Q (nI nq) LO (nI t0) (nI j)).1 = 0 ∧ (s_Par_asks K V S W (nI cs) Q (nI nq) LO (nI t0) (nI j)).2.1 = nI t' ∧ t' ≤ n ∧ (s_Mo_readBins g (nI N) m.ks m.vs m.tk m.at_ m.pl m.kd m.vl m.dp m.js told lo m.co m.sz co lw hi tp bg en m.go m.wi m.gc (nI nq)).1 = 0 ∧ (s_Mo_readBins g (nI N) m.ks m.vs m.tk m.at_ m.pl m.kd m.vl m.dp m.js told lo m.co m.sz co lw hi tp bg en m.go m.wi m.gc (nI nq)).2.2.2.1 = P t')) := by
  have hn := L.le
  have hN := L.hN
  have ht := hat.1
  have hin : vp_in (nI nq) 12 := vp_in_nI hq (by decide)
  have hpi := hat.pi L
  have e6 : s_Par_take K (nI t0) 6 = (0, nI t0) := (par_take (show t0 ≤ 2000 by omega) hK (by decide) (show 6 < 31 by decide)).trans (if_neg (by decide))
  have e7 : s_Par_take K (nI t0) 7 = (0, nI t0) := (par_take (show t0 ≤ 2000 by omega) hK (by decide) (show 7 < 31 by decide)).trans (if_neg (by decide))
  have e8 : s_Par_take K (nI t0) 8 = (1, nI (t0 + 1)) := (par_take (show t0 ≤ 2000 by omega) hK (by decide) (show 8 < 31 by decide)).trans (if_pos rfl)
  have hhead : ∀ q0 q1 q2 q3 q4 q5 q6 q7 : Int32, s_Par_head K V (nI t0) q0 q1 q2 q3 q4 q5 q6 q7 = (if (s_Par_take K (nI (t0 + 1)) 3).1 = 0 then (0, (s_Par_take K (nI (t0 + 1)) 3).2, 2, V (t0 + 1), 0, 0, 1, 0, 0, 0) else if (s_Par_range K V (s_Par_take K (nI (t0 + 1)) 3).2 0 0).1 = 0 then (0, (s_Par_range K V (s_Par_take K (nI (t0 + 1)) 3).2 0 0).2.1, 2, V (t0 + 1), (s_Par_range K V (s_Par_take K (nI (t0 + 1)) 3).2 0 0).2.2.1, (s_Par_range K V (s_Par_take K (nI (t0 + 1)) 3).2 0 0).2.2.2, 1, 0, 0, 0) else (1, (s_Par_range K V (s_Par_take K (nI (t0 + 1)) 3).2 0 0).2.1, 2, V (t0 + 1), (s_Par_range K V (s_Par_take K (nI (t0 + 1)) 3).2 0 0).2.2.1, (s_Par_range K V (s_Par_take K (nI (t0 + 1)) 3).2 0 0).2.2.2, 1, 0, 0, 0)) := fun q0 q1 q2 q3 q4 q5 q6 q7 => by
    unfold s_Par_head
    rw [e6]
    dsimp only
    rw [if_pos (show (0 : Int32) = 0 from rfl), e7]
    dsimp only
    rw [if_pos (show (0 : Int32) = 0 from rfl), e8]
    dsimp only
    rw [if10, col_eq (by omega)]
  rcases take_sim L hat 3 3 13 (by decide) (by decide) rfl rfl with ⟨a1, a2, a3, a4, a5, ⟨c, a6, a8⟩, m1, n1, a7⟩ | ⟨a1, a2, a3⟩
  case inr =>
    obtain ⟨f1, f2, f3⟩ := asks_hfail (LO := LO) (S := S) (W := W) (Q := Q) (t' := t0 + 1) (j := j) (cs := cs) hq (show t0 ≤ 2000 by omega) (by rw [hhead, a1]; rfl) (by rw [hhead, a1]; rfl)
    obtain ⟨k, -, -, -, z4, -, -⟩ := hat.view L
    refine ⟨f1, ?_, Or.inr ⟨t0 + 1, f2, f3, ht, ?_⟩⟩
    · unfold ok_Mo_readBins ok_Mo_readColumn s_Mo_readColumn
      rw [one_n a2]
      dsimp only
      rw [if_pos (show (0 : Int32) = 0 from rfl)]
      exact ⟨⟨hin, hpi, trivial⟩, trivial⟩
    · unfold s_Mo_readBins s_Mo_readColumn
      rw [one_n a2]
      dsimp only
      rw [if_pos (show (0 : Int32) = 0 from rfl)]
      exact ⟨rfl, z4⟩
  have hc6 : c < 6 := a6.2.2.2.1 rfl
  have hpi1 := a7.pi L
  have hfail : ∀ t' : Nat, (s_Par_range K V (nI (t0 + 1 + 1)) 0 0).1 = 0 → (s_Par_range K V (nI (t0 + 1 + 1)) 0 0).2.1 = nI t' → ok_Par_asks K V S W (nI cs) Q (nI nq) LO (nI t0) (nI j) ∧ (s_Par_asks K V S W (nI cs) Q (nI nq) LO (nI t0) (nI j)).1 = 0 ∧ (s_Par_asks K V S W (nI cs) Q (nI nq) LO (nI t0) (nI j)).2.1 = nI t' := fun t' h1 h2 => asks_hfail hq (show t0 ≤ 2000 by omega) (by rw [hhead, a1]; dsimp only; rw [if10, if_pos h1]) (by rw [hhead, a1]; dsimp only; rw [if10, if_pos h1]; exact h2)
  have hgood : ∀ (t : Nat) (X Y : Int32), s_Par_range K V (nI (t0 + 1 + 1)) 0 0 = (1, nI t, X, Y) → ∀ q0 q1 q2 q3 q4 q5 q6 q7 : Int32, s_Par_head K V (nI t0) q0 q1 q2 q3 q4 q5 q6 q7 = (1, nI t, 2, nI c, X, Y, 1, 0, 0, 0) := fun t X Y h q0 q1 q2 q3 q4 q5 q6 q7 => by
    rw [hhead, a1]
    dsimp only
    rw [if10, h, a8]
    dsimp only
    rw [if10]
  have ecol : s_Mo_readColumn g (nI N) m.ks m.vs m.tk m.at_ m.pl m.kd m.vl co (nI nq) = (1, m1.tk, m1.at_, m1.pl, m1.kd, m1.vl, m1.ks, m1.vs, upd co nq (nI c)) := by
    unfold s_Mo_readColumn
    rw [n1.one a2, nI_clamp (by omega), a5, a8]
  have ocol : ok_Mo_readColumn g (nI N) m.ks m.vs m.tk m.at_ m.pl m.kd m.vl (nI nq) := ⟨hin, hpi, trivial⟩
  unfold ok_Mo_readBins s_Mo_readBins
  rw [ecol]
  dsimp only
  rw [if10, if10, nI_clamp (show nq < 2 ^ 31 by omega)]
  rcases take_sim L a7 9 9 9 (by decide) (by decide) rfl rfl with ⟨b1, b2, b3, b4, b5, -, m2, n2, b7⟩ | ⟨b1, b2, b3⟩
  case inr =>
    obtain ⟨f1, f2, f3⟩ := hfail (t0 + 1 + 1) (by unfold s_Par_range; rw [b1]; rfl) (by unfold s_Par_range; rw [b1]; rfl)
    obtain ⟨k, -, -, -, z4, -, -⟩ := a7.view L
    rw [one_n b2]
    dsimp only
    rw [if_pos (show (0 : Int32) = 0 from rfl), if_pos (show (0 : Int32) = 0 from rfl)]
    exact ⟨f1, ⟨ocol, hpi1, trivial⟩, Or.inr ⟨t0 + 1 + 1, f2, f3, a7.1, rfl, z4⟩⟩
  rw [n2.one b2]
  dsimp only
  rw [if10, if10]
  rcases take_sim L b7 24 24 24 (by decide) (by decide) rfl rfl with ⟨c1, c2, c3, c4, c5, -, m3, n3, c7⟩ | ⟨c1, c2, c3⟩
  · rw [if_pos c2, if_pos c2, n3.pass]
    dsimp only
    have hk3 : ¬ m2.kd = 30 := by rw [c2]; decide
    rcases take_sim L c7 2 2 15 (by decide) (by decide) rfl rfl with ⟨d1, d2, d3, d4, d5, ⟨v, d6, d8⟩, m4, n4, d7⟩ | ⟨d1, d2, d3⟩
    case inr =>
      obtain ⟨f1, f2, f3⟩ := hfail (t0 + 1 + 1 + 1 + 1) (by unfold s_Par_range; rw [b1]; dsimp only; rw [if10, c1]; dsimp only; rw [if10, d1]; rfl) (by unfold s_Par_range; rw [b1]; dsimp only; rw [if10, c1]; dsimp only; rw [if10, d1]; rfl)
      obtain ⟨k, -, -, -, z4, -, -⟩ := c7.view L
      rw [one_n d2]
      dsimp only
      rw [if_pos (show (0 : Int32) = 0 from rfl), if_pos (show (0 : Int32) = 0 from rfl)]
      exact ⟨f1, ⟨ocol, hpi1, hk3, hin, trivial⟩, Or.inr ⟨t0 + 1 + 1 + 1 + 1, f2, f3, c7.1, rfl, z4⟩⟩
    rw [n4.one d2]
    dsimp only
    rw [if10, if10]
    rcases take_sim L d7 10 10 7 (by decide) (by decide) rfl rfl with ⟨x1, x2, x3, x4, x5, -, m5, n5, x7⟩ | ⟨x1, x2, x3⟩
    case inr =>
      obtain ⟨f1, f2, f3⟩ := hfail (t0 + 1 + 1 + 1 + 1 + 1) (by unfold s_Par_range; rw [b1]; dsimp only; rw [if10, c1]; dsimp only; rw [if10, d1]; dsimp only; rw [if10, x1]; rfl) (by unfold s_Par_range; rw [b1]; dsimp only; rw [if10, c1]; dsimp only; rw [if10, d1]; dsimp only; rw [if10, x1]; rfl)
      obtain ⟨k, -, -, -, z4, -, -⟩ := d7.view L
      rw [one_n x2]
      dsimp only
      rw [if_pos (show (0 : Int32) = 0 from rfl), if_pos (show (0 : Int32) = 0 from rfl)]
      exact ⟨f1, ⟨ocol, hpi1, hk3, hin, trivial⟩, Or.inr ⟨t0 + 1 + 1 + 1 + 1 + 1, f2, f3, d7.1, rfl, z4⟩⟩
    rw [n5.one x2]
    dsimp only
    rw [if10, if10]
    have hlo : (-1) * s_Par_value V (nI (t0 + 1 + 1 + 1 + 1)) = -m3.vl := by
      rw [par_value (by omega), ← d5, neg_m]
    rcases take_sim L x7 24 24 24 (by decide) (by decide) rfl rfl with ⟨y1, y2, y3, y4, y5, -, m6, n6, y7⟩ | ⟨y1, y2, y3⟩
    · rw [if_pos y2, if_pos y2, n6.pass]
      dsimp only
      have hk5 : ¬ m5.kd = 30 := by rw [y2]; decide
      have hrng : s_Par_range K V (nI (t0 + 1 + 1)) 0 0 = rngE K V (nI (t0 + 1 + 1 + 1 + 1 + 1 + 1 + 1)) (-m3.vl) (-1) := by
        rw [← hlo]
        unfold s_Par_range; rw [b1]; dsimp only; rw [if10, c1]; dsimp only; rw [if10, d1]; dsimp only; rw [if10, x1]; dsimp only; rw [if10, y1]; dsimp only; rw [if10]; rfl
      have hhi : (-1) * m6.vl = -m6.vl := neg_m _
      obtain ⟨kk, -, -, -, zz, -, -⟩ := y7.view L
      simp only [pk_us]
      rcases rngE_sim L y7 (-m3.vl) (-1) with ⟨v', r1, r2, r3, r4, r5, r6, m7, n7, r7⟩ | ⟨r1, r2, r3⟩
      · rw [← r3, hhi] at r4 r5 r6
        rw [if_pos r2, if_pos r2, if_neg r4, if_neg r4, if_pos r5, if_pos r5, n7.pass]
        dsimp only
        have hk7 : ¬ m6.kd = 30 := by rw [r2]; decide
        obtain ⟨sp, s1, s2⟩ := span20 r4 r5
        obtain ⟨w1, w2, w3⟩ := where_sim (S := S) (W := W) (tp := tp) (bg := bg) (en := en) (Q := Q) (j := j) (cs := cs) (m := m7) L R hq (by omega) (hgood _ _ _ (hrng.trans r6) _ _ _ _ _ _ _ _) r7 (n7.js.trans (n6.js.trans (n5.js.trans (n4.js.trans (n3.js.trans (n2.js.trans (n1.js.trans (hj)))))))) hj2 (n7.sz.trans (n6.sz.trans (n5.sz.trans (n4.sz.trans (n3.sz.trans (n2.sz.trans (n1.sz.trans (hs)))))))) (by omega)
        simp only [n1.js, n1.sz, n1.co, n1.dp, n1.gc, n1.go, n1.wi, n2.js, n2.sz, n2.co, n2.dp, n2.gc, n2.go, n2.wi, n3.js, n3.sz, n3.co, n3.dp, n3.gc, n3.go, n3.wi, n4.js, n4.sz, n4.co, n4.dp, n4.gc, n4.go, n4.wi, n5.js, n5.sz, n5.co, n5.dp, n5.gc, n5.go, n5.wi, n6.js, n6.sz, n6.co, n6.dp, n6.gc, n6.go, n6.wi, n7.js, n7.sz, n7.co, n7.dp, n7.gc, n7.go, n7.wi] at w2 w3
        have w3' : QsR g K V P N n e Lc m7 (t0 + 1 + 1 + 1 + 1 + 1 + 1 + 1 + 1) cs nq S W Q (fun x y z => qF 2 (nI c) (-m3.vl) (-m6.vl) 1 x y z) tp bg en (s_Par_asks K V S W (nI cs) Q (nI nq) LO (nI t0) (nI j)) (s_Mo_readWhere g (nI N) m7.ks m7.vs m7.tk m7.at_ m7.pl m7.kd m7.vl m.dp m.js told lo m.co m.sz tp bg en m.go m.wi m.gc (nI nq)) := w3
        refine ⟨w1, ⟨ocol, hpi1, hk3, hin, hk5, hin, hin, hin, hin, hin, hk7, w2, ?_⟩, Or.inl ⟨c, t0 + 1 + 1 + 1 + 1 + 1 + 1 + 1 + 1, sp, -m3.vl, -m6.vl, m7, _, hc6, s1, s2, ?_, ?_, su_if w3'.fst, w3'⟩⟩
        · split <;> trivial
        · omega
        · rw [n7.co, n6.co, n5.co, n4.co, n3.co, n2.co, n1.co]
      · obtain ⟨f1, f2, f3⟩ := hfail (t0 + 1 + 1 + 1 + 1 + 1 + 1 + 1) (by rw [hrng]; exact r1) (by rw [hrng]; exact r2)
        rw [hhi] at r3
        by_cases k15 : m6.kd = 15
        · rw [if_pos k15, if_pos k15]
          by_cases kl : -m6.vl < -m3.vl
          · rw [if_pos kl, if_pos kl]
            exact ⟨f1, ⟨ocol, hpi1, hk3, hin, hk5, hin, hin, hin, trivial⟩, Or.inr ⟨t0 + 1 + 1 + 1 + 1 + 1 + 1 + 1, f2, f3, y7.1, rfl, zz⟩⟩
          · have kc := r3 k15 kl
            rw [if_neg kl, if_neg kl, if_neg kc, if_neg kc]
            exact ⟨f1, ⟨ocol, hpi1, hk3, hin, hk5, hin, hin, hin, hin, hin, trivial⟩, Or.inr ⟨t0 + 1 + 1 + 1 + 1 + 1 + 1 + 1, f2, f3, y7.1, rfl, zz⟩⟩
        · rw [if_neg k15, if_neg k15]
          exact ⟨f1, ⟨ocol, hpi1, hk3, hin, hk5, hin, trivial⟩, Or.inr ⟨t0 + 1 + 1 + 1 + 1 + 1 + 1 + 1, f2, f3, y7.1, rfl, zz⟩⟩
    · rw [if_neg y2, if_neg y2]
      dsimp only
      have hrng : s_Par_range K V (nI (t0 + 1 + 1)) 0 0 = rngE K V (nI (t0 + 1 + 1 + 1 + 1 + 1 + 1)) (-m3.vl) 1 := by
        rw [← hlo]
        unfold s_Par_range; rw [b1]; dsimp only; rw [if10, c1]; dsimp only; rw [if10, d1]; dsimp only; rw [if10, x1]; dsimp only; rw [if10, y1]; dsimp only; rw [if_pos (show (0 : Int32) = 0 from rfl)]; rfl
      have hhi : 1 * m5.vl = m5.vl := one_m _
      obtain ⟨kk, -, -, -, zz, -, -⟩ := x7.view L
      simp only [pk_us]
      rcases rngE_sim L x7 (-m3.vl) 1 with ⟨v', r1, r2, r3, r4, r5, r6, m6, n6, r7⟩ | ⟨r1, r2, r3⟩
      · rw [← r3, hhi] at r4 r5 r6
        rw [if_pos r2, if_pos r2, if_neg r4, if_neg r4, if_pos r5, if_pos r5, n6.pass]
        dsimp only
        have hk7 : ¬ m5.kd = 30 := by rw [r2]; decide
        obtain ⟨sp, s1, s2⟩ := span20 r4 r5
        obtain ⟨w1, w2, w3⟩ := where_sim (S := S) (W := W) (tp := tp) (bg := bg) (en := en) (Q := Q) (j := j) (cs := cs) (m := m6) L R hq (by omega) (hgood _ _ _ (hrng.trans r6) _ _ _ _ _ _ _ _) r7 (n6.js.trans (n5.js.trans (n4.js.trans (n3.js.trans (n2.js.trans (n1.js.trans (hj))))))) hj2 (n6.sz.trans (n5.sz.trans (n4.sz.trans (n3.sz.trans (n2.sz.trans (n1.sz.trans (hs))))))) (by omega)
        simp only [n1.js, n1.sz, n1.co, n1.dp, n1.gc, n1.go, n1.wi, n2.js, n2.sz, n2.co, n2.dp, n2.gc, n2.go, n2.wi, n3.js, n3.sz, n3.co, n3.dp, n3.gc, n3.go, n3.wi, n4.js, n4.sz, n4.co, n4.dp, n4.gc, n4.go, n4.wi, n5.js, n5.sz, n5.co, n5.dp, n5.gc, n5.go, n5.wi, n6.js, n6.sz, n6.co, n6.dp, n6.gc, n6.go, n6.wi] at w2 w3
        have w3' : QsR g K V P N n e Lc m6 (t0 + 1 + 1 + 1 + 1 + 1 + 1 + 1) cs nq S W Q (fun x y z => qF 2 (nI c) (-m3.vl) (m5.vl) 1 x y z) tp bg en (s_Par_asks K V S W (nI cs) Q (nI nq) LO (nI t0) (nI j)) (s_Mo_readWhere g (nI N) m6.ks m6.vs m6.tk m6.at_ m6.pl m6.kd m6.vl m.dp m.js told lo m.co m.sz tp bg en m.go m.wi m.gc (nI nq)) := w3
        refine ⟨w1, ⟨ocol, hpi1, hk3, hin, hin, hin, hin, hin, hin, hk7, w2, ?_⟩, Or.inl ⟨c, t0 + 1 + 1 + 1 + 1 + 1 + 1 + 1, sp, -m3.vl, m5.vl, m6, _, hc6, s1, s2, ?_, ?_, su_if w3'.fst, w3'⟩⟩
        · split <;> trivial
        · omega
        · rw [n6.co, n5.co, n4.co, n3.co, n2.co, n1.co]
      · obtain ⟨f1, f2, f3⟩ := hfail (t0 + 1 + 1 + 1 + 1 + 1 + 1) (by rw [hrng]; exact r1) (by rw [hrng]; exact r2)
        rw [hhi] at r3
        by_cases k15 : m5.kd = 15
        · rw [if_pos k15, if_pos k15]
          by_cases kl : m5.vl < -m3.vl
          · rw [if_pos kl, if_pos kl]
            exact ⟨f1, ⟨ocol, hpi1, hk3, hin, hin, hin, hin, trivial⟩, Or.inr ⟨t0 + 1 + 1 + 1 + 1 + 1 + 1, f2, f3, x7.1, rfl, zz⟩⟩
          · have kc := r3 k15 kl
            rw [if_neg kl, if_neg kl, if_neg kc, if_neg kc]
            exact ⟨f1, ⟨ocol, hpi1, hk3, hin, hin, hin, hin, hin, hin, trivial⟩, Or.inr ⟨t0 + 1 + 1 + 1 + 1 + 1 + 1, f2, f3, x7.1, rfl, zz⟩⟩
        · rw [if_neg k15, if_neg k15]
          exact ⟨f1, ⟨ocol, hpi1, hk3, hin, hin, trivial⟩, Or.inr ⟨t0 + 1 + 1 + 1 + 1 + 1 + 1, f2, f3, x7.1, rfl, zz⟩⟩
  · rw [if_neg c2, if_neg c2]
    dsimp only
    rcases take_sim L b7 2 2 15 (by decide) (by decide) rfl rfl with ⟨d1, d2, d3, d4, d5, ⟨v, d6, d8⟩, m3, n3, d7⟩ | ⟨d1, d2, d3⟩
    case inr =>
      obtain ⟨f1, f2, f3⟩ := hfail (t0 + 1 + 1 + 1) (by unfold s_Par_range; rw [b1]; dsimp only; rw [if10, c1]; dsimp only; rw [if_pos (show (0 : Int32) = 0 from rfl), d1]; rfl) (by unfold s_Par_range; rw [b1]; dsimp only; rw [if10, c1]; dsimp only; rw [if_pos (show (0 : Int32) = 0 from rfl), d1]; rfl)
      obtain ⟨k, -, -, -, z4, -, -⟩ := b7.view L
      rw [one_n d2]
      dsimp only
      rw [if_pos (show (0 : Int32) = 0 from rfl), if_pos (show (0 : Int32) = 0 from rfl)]
      exact ⟨f1, ⟨ocol, hpi1, hin, trivial⟩, Or.inr ⟨t0 + 1 + 1 + 1, f2, f3, b7.1, rfl, z4⟩⟩
    rw [n3.one d2]
    dsimp only
    rw [if10, if10]
    rcases take_sim L d7 10 10 7 (by decide) (by decide) rfl rfl with ⟨x1, x2, x3, x4, x5, -, m4, n4, x7⟩ | ⟨x1, x2, x3⟩
    case inr =>
      obtain ⟨f1, f2, f3⟩ := hfail (t0 + 1 + 1 + 1 + 1) (by unfold s_Par_range; rw [b1]; dsimp only; rw [if10, c1]; dsimp only; rw [if_pos (show (0 : Int32) = 0 from rfl), d1]; dsimp only; rw [if10, x1]; rfl) (by unfold s_Par_range; rw [b1]; dsimp only; rw [if10, c1]; dsimp only; rw [if_pos (show (0 : Int32) = 0 from rfl), d1]; dsimp only; rw [if10, x1]; rfl)
      obtain ⟨k, -, -, -, z4, -, -⟩ := d7.view L
      rw [one_n x2]
      dsimp only
      rw [if_pos (show (0 : Int32) = 0 from rfl), if_pos (show (0 : Int32) = 0 from rfl)]
      exact ⟨f1, ⟨ocol, hpi1, hin, trivial⟩, Or.inr ⟨t0 + 1 + 1 + 1 + 1, f2, f3, d7.1, rfl, z4⟩⟩
    rw [n4.one x2]
    dsimp only
    rw [if10, if10]
    have hlo : 1 * s_Par_value V (nI (t0 + 1 + 1 + 1)) = m2.vl := by
      rw [par_value (by omega), ← d5, one_m]
    rcases take_sim L x7 24 24 24 (by decide) (by decide) rfl rfl with ⟨y1, y2, y3, y4, y5, -, m5, n5, y7⟩ | ⟨y1, y2, y3⟩
    · rw [if_pos y2, if_pos y2, n5.pass]
      dsimp only
      have hk5 : ¬ m4.kd = 30 := by rw [y2]; decide
      have hrng : s_Par_range K V (nI (t0 + 1 + 1)) 0 0 = rngE K V (nI (t0 + 1 + 1 + 1 + 1 + 1 + 1)) (m2.vl) (-1) := by
        rw [← hlo]
        unfold s_Par_range; rw [b1]; dsimp only; rw [if10, c1]; dsimp only; rw [if_pos (show (0 : Int32) = 0 from rfl), d1]; dsimp only; rw [if10, x1]; dsimp only; rw [if10, y1]; dsimp only; rw [if10]; rfl
      have hhi : (-1) * m5.vl = -m5.vl := neg_m _
      obtain ⟨kk, -, -, -, zz, -, -⟩ := y7.view L
      simp only [pk_us]
      rcases rngE_sim L y7 (m2.vl) (-1) with ⟨v', r1, r2, r3, r4, r5, r6, m6, n6, r7⟩ | ⟨r1, r2, r3⟩
      · rw [← r3, hhi] at r4 r5 r6
        rw [if_pos r2, if_pos r2, if_neg r4, if_neg r4, if_pos r5, if_pos r5, n6.pass]
        dsimp only
        have hk7 : ¬ m5.kd = 30 := by rw [r2]; decide
        obtain ⟨sp, s1, s2⟩ := span20 r4 r5
        obtain ⟨w1, w2, w3⟩ := where_sim (S := S) (W := W) (tp := tp) (bg := bg) (en := en) (Q := Q) (j := j) (cs := cs) (m := m6) L R hq (by omega) (hgood _ _ _ (hrng.trans r6) _ _ _ _ _ _ _ _) r7 (n6.js.trans (n5.js.trans (n4.js.trans (n3.js.trans (n2.js.trans (n1.js.trans (hj))))))) hj2 (n6.sz.trans (n5.sz.trans (n4.sz.trans (n3.sz.trans (n2.sz.trans (n1.sz.trans (hs))))))) (by omega)
        simp only [n1.js, n1.sz, n1.co, n1.dp, n1.gc, n1.go, n1.wi, n2.js, n2.sz, n2.co, n2.dp, n2.gc, n2.go, n2.wi, n3.js, n3.sz, n3.co, n3.dp, n3.gc, n3.go, n3.wi, n4.js, n4.sz, n4.co, n4.dp, n4.gc, n4.go, n4.wi, n5.js, n5.sz, n5.co, n5.dp, n5.gc, n5.go, n5.wi, n6.js, n6.sz, n6.co, n6.dp, n6.gc, n6.go, n6.wi] at w2 w3
        have w3' : QsR g K V P N n e Lc m6 (t0 + 1 + 1 + 1 + 1 + 1 + 1 + 1) cs nq S W Q (fun x y z => qF 2 (nI c) (m2.vl) (-m5.vl) 1 x y z) tp bg en (s_Par_asks K V S W (nI cs) Q (nI nq) LO (nI t0) (nI j)) (s_Mo_readWhere g (nI N) m6.ks m6.vs m6.tk m6.at_ m6.pl m6.kd m6.vl m.dp m.js told lo m.co m.sz tp bg en m.go m.wi m.gc (nI nq)) := w3
        refine ⟨w1, ⟨ocol, hpi1, hin, hk5, hin, hin, hin, hin, hin, hk7, w2, ?_⟩, Or.inl ⟨c, t0 + 1 + 1 + 1 + 1 + 1 + 1 + 1, sp, m2.vl, -m5.vl, m6, _, hc6, s1, s2, ?_, ?_, su_if w3'.fst, w3'⟩⟩
        · split <;> trivial
        · omega
        · rw [n6.co, n5.co, n4.co, n3.co, n2.co, n1.co]
      · obtain ⟨f1, f2, f3⟩ := hfail (t0 + 1 + 1 + 1 + 1 + 1 + 1) (by rw [hrng]; exact r1) (by rw [hrng]; exact r2)
        rw [hhi] at r3
        by_cases k15 : m5.kd = 15
        · rw [if_pos k15, if_pos k15]
          by_cases kl : -m5.vl < m2.vl
          · rw [if_pos kl, if_pos kl]
            exact ⟨f1, ⟨ocol, hpi1, hin, hk5, hin, hin, hin, trivial⟩, Or.inr ⟨t0 + 1 + 1 + 1 + 1 + 1 + 1, f2, f3, y7.1, rfl, zz⟩⟩
          · have kc := r3 k15 kl
            rw [if_neg kl, if_neg kl, if_neg kc, if_neg kc]
            exact ⟨f1, ⟨ocol, hpi1, hin, hk5, hin, hin, hin, hin, hin, trivial⟩, Or.inr ⟨t0 + 1 + 1 + 1 + 1 + 1 + 1, f2, f3, y7.1, rfl, zz⟩⟩
        · rw [if_neg k15, if_neg k15]
          exact ⟨f1, ⟨ocol, hpi1, hin, hk5, hin, trivial⟩, Or.inr ⟨t0 + 1 + 1 + 1 + 1 + 1 + 1, f2, f3, y7.1, rfl, zz⟩⟩
    · rw [if_neg y2, if_neg y2]
      dsimp only
      have hrng : s_Par_range K V (nI (t0 + 1 + 1)) 0 0 = rngE K V (nI (t0 + 1 + 1 + 1 + 1 + 1)) (m2.vl) 1 := by
        rw [← hlo]
        unfold s_Par_range; rw [b1]; dsimp only; rw [if10, c1]; dsimp only; rw [if_pos (show (0 : Int32) = 0 from rfl), d1]; dsimp only; rw [if10, x1]; dsimp only; rw [if10, y1]; dsimp only; rw [if_pos (show (0 : Int32) = 0 from rfl)]; rfl
      have hhi : 1 * m4.vl = m4.vl := one_m _
      obtain ⟨kk, -, -, -, zz, -, -⟩ := x7.view L
      simp only [pk_us]
      rcases rngE_sim L x7 (m2.vl) 1 with ⟨v', r1, r2, r3, r4, r5, r6, m5, n5, r7⟩ | ⟨r1, r2, r3⟩
      · rw [← r3, hhi] at r4 r5 r6
        rw [if_pos r2, if_pos r2, if_neg r4, if_neg r4, if_pos r5, if_pos r5, n5.pass]
        dsimp only
        have hk7 : ¬ m4.kd = 30 := by rw [r2]; decide
        obtain ⟨sp, s1, s2⟩ := span20 r4 r5
        obtain ⟨w1, w2, w3⟩ := where_sim (S := S) (W := W) (tp := tp) (bg := bg) (en := en) (Q := Q) (j := j) (cs := cs) (m := m5) L R hq (by omega) (hgood _ _ _ (hrng.trans r6) _ _ _ _ _ _ _ _) r7 (n5.js.trans (n4.js.trans (n3.js.trans (n2.js.trans (n1.js.trans (hj)))))) hj2 (n5.sz.trans (n4.sz.trans (n3.sz.trans (n2.sz.trans (n1.sz.trans (hs)))))) (by omega)
        simp only [n1.js, n1.sz, n1.co, n1.dp, n1.gc, n1.go, n1.wi, n2.js, n2.sz, n2.co, n2.dp, n2.gc, n2.go, n2.wi, n3.js, n3.sz, n3.co, n3.dp, n3.gc, n3.go, n3.wi, n4.js, n4.sz, n4.co, n4.dp, n4.gc, n4.go, n4.wi, n5.js, n5.sz, n5.co, n5.dp, n5.gc, n5.go, n5.wi] at w2 w3
        have w3' : QsR g K V P N n e Lc m5 (t0 + 1 + 1 + 1 + 1 + 1 + 1) cs nq S W Q (fun x y z => qF 2 (nI c) (m2.vl) (m4.vl) 1 x y z) tp bg en (s_Par_asks K V S W (nI cs) Q (nI nq) LO (nI t0) (nI j)) (s_Mo_readWhere g (nI N) m5.ks m5.vs m5.tk m5.at_ m5.pl m5.kd m5.vl m.dp m.js told lo m.co m.sz tp bg en m.go m.wi m.gc (nI nq)) := w3
        refine ⟨w1, ⟨ocol, hpi1, hin, hin, hin, hin, hin, hin, hk7, w2, ?_⟩, Or.inl ⟨c, t0 + 1 + 1 + 1 + 1 + 1 + 1, sp, m2.vl, m4.vl, m5, _, hc6, s1, s2, ?_, ?_, su_if w3'.fst, w3'⟩⟩
        · split <;> trivial
        · omega
        · rw [n5.co, n4.co, n3.co, n2.co, n1.co]
      · obtain ⟨f1, f2, f3⟩ := hfail (t0 + 1 + 1 + 1 + 1 + 1) (by rw [hrng]; exact r1) (by rw [hrng]; exact r2)
        rw [hhi] at r3
        by_cases k15 : m4.kd = 15
        · rw [if_pos k15, if_pos k15]
          by_cases kl : m4.vl < m2.vl
          · rw [if_pos kl, if_pos kl]
            exact ⟨f1, ⟨ocol, hpi1, hin, hin, hin, hin, trivial⟩, Or.inr ⟨t0 + 1 + 1 + 1 + 1 + 1, f2, f3, x7.1, rfl, zz⟩⟩
          · have kc := r3 k15 kl
            rw [if_neg kl, if_neg kl, if_neg kc, if_neg kc]
            exact ⟨f1, ⟨ocol, hpi1, hin, hin, hin, hin, hin, hin, trivial⟩, Or.inr ⟨t0 + 1 + 1 + 1 + 1 + 1, f2, f3, x7.1, rfl, zz⟩⟩
        · rw [if_neg k15, if_neg k15]
          exact ⟨f1, ⟨ocol, hpi1, hin, hin, trivial⟩, Or.inr ⟨t0 + 1 + 1 + 1 + 1 + 1, f2, f3, x7.1, rfl, zz⟩⟩
end TOP5
