/-! bins -/
section TOP5
variable {g K V P : Nat → Int32} {N n : Nat} {e pos : Nat → Nat} {LO told lo : Nat → Int32} {Lc : Nat}
theorem d64 (a b : Int32) : (a.toInt64 - b.toInt64).toInt = a.toInt - b.toInt := by
  rw [Int64.toInt_sub, Int32.toInt_toInt64, Int32.toInt_toInt64]
  have h1 := Int32.le_toInt a
  have h2 := Int32.toInt_lt a
  have h3 := Int32.le_toInt b
  have h4 := Int32.toInt_lt b
  exact Int.bmod_eq_of_le (by omega) (by omega)
theorem lt0 (a b : Int32) : lg_cmp (a.toInt64 - b.toInt64) 0 < 0 ↔ a < b := by
  rw [lg_cmp_lt, Int64.lt_iff_toInt_lt, d64, show (0 : Int64).toInt = 0 by decide, Int32.lt_iff_toInt_lt]
  omega
theorem ge20 (x : Int64) : (0 ≤ lg_cmp x 20) ↔ ¬ lg_cmp x 20 < 0 := by
  rw [lg_cmp_ge, lg_cmp_lt, Int64.le_iff_toInt_le, Int64.lt_iff_toInt_lt]
  omega
theorem span20 {a b : Int32} (h1 : ¬ a < b) (h2 : lg_cmp (a.toInt64 - b.toInt64) 20 < 0) : ∃ k : Nat, k < 20 ∧ a.toInt = b.toInt + k := by
  rw [Int32.lt_iff_toInt_lt] at h1
  rw [lg_cmp_lt, Int64.lt_iff_toInt_lt, d64, show (20 : Int64).toInt = 20 by decide] at h2
  exact ⟨(a.toInt - b.toInt).toNat, by omega, by omega⟩
theorem one_m (x : Int32) : 1 * x = x := Int32.one_mul x
theorem neg_m (x : Int32) : (-1) * x = -x := by
  apply Int32.toInt_inj.mp
  rw [Int32.toInt_mul, show (-1 : Int32).toInt = -1 by decide, Int32.toInt_neg, Int.neg_mul, Int.one_mul]
/-- the end of a range: the upper number -/
def rngE (K V : Nat → Int32) (t X s : Int32) : Int32 × Int32 × Int32 × Int32 :=
  if (lg_cmp (((s * s_Par_value V t).toInt64) - (X.toInt64)) 0) < 0 then (0, t, X, s * s_Par_value V t)
  else if 0 ≤ (lg_cmp (((s * s_Par_value V t).toInt64) - (X.toInt64)) 20) then (0, t, X, s * s_Par_value V t)
  else if (s_Par_take K t 2).1 = 0 then (0, (s_Par_take K t 2).2, X, s * s_Par_value V t)
  else (1, (s_Par_take K t 2).2, X, s * s_Par_value V t)
theorem rngE_sim (L : LexR g K V P N n e pos) {m : MS} {t : Nat} (hat : At g K V N n e m t) (X s : Int32) :
    (∃ v : Nat, v < 2 ^ 31 ∧ m.kd = 15 ∧ m.vl = nI v ∧ ¬ s * nI v < X ∧ lg_cmp ((s * nI v).toInt64 - X.toInt64) 20 < 0 ∧ rngE K V (nI t) X s = (1, nI (t + 1), X, s * nI v) ∧ ∃ m1 : MS, Nx g N m m1 ∧ At g K V N n e m1 (t + 1)) ∨
    ((rngE K V (nI t) X s).1 = 0 ∧ (rngE K V (nI t) X s).2.1 = nI t ∧ (m.kd = 15 → ¬ s * m.vl < X → ¬ lg_cmp ((s * m.vl).toInt64 - X.toInt64) 20 < 0)) := by
  have hn := L.le
  have hN := L.hN
  have ht := hat.1
  unfold rngE
  rw [par_value (show t ≤ 2000 by omega)]
  rcases take_sim L hat 2 2 15 (by decide) (by decide) rfl rfl with ⟨a1, a2, a3, a4, a5, ⟨v, a6, a8⟩, a7⟩ | ⟨a1, a2, a3⟩
  · rw [a1, a5, a8]
    by_cases c1 : s * nI v < X
    · rw [if_pos ((lt0 _ _).mpr c1)]
      exact Or.inr ⟨rfl, rfl, fun _ q => absurd c1 q⟩
    · rw [if_neg (fun q => c1 ((lt0 _ _).mp q))]
      by_cases c2 : lg_cmp ((s * nI v).toInt64 - X.toInt64) 20 < 0
      · rw [if_neg (fun q => (ge20 _).mp q c2)]
        dsimp only
        rw [if10]
        exact Or.inl ⟨v, a6.2.2.1, a2, rfl, c1, c2, rfl, a7⟩
      · rw [if_pos ((ge20 _).mpr c2)]
        exact Or.inr ⟨rfl, rfl, fun _ _ => c2⟩
  · refine Or.inr ?_
    rw [a1]
    dsimp only
    rw [if_pos (show (0 : Int32) = 0 from rfl)]
    refine ⟨?_, ?_, fun q => absurd q a2⟩
    · split
      · rfl
      · split <;> rfl
    · split
      · rfl
      · split <;> rfl
theorem su_if {w : WT} {a b c : Nat → Int32} (h : w.1 = 0 ∨ w.1 = 1) : (if w.1 = 0 then ((0 : Int32), w.2.1, w.2.2.1, w.2.2.2.1, w.2.2.2.2.1, w.2.2.2.2.2.1, w.2.2.2.2.2.2.1, w.2.2.2.2.2.2.2.1, w.2.2.2.2.2.2.2.2.1, w.2.2.2.2.2.2.2.2.2.1, w.2.2.2.2.2.2.2.2.2.2.1, w.2.2.2.2.2.2.2.2.2.2.2.1, w.2.2.2.2.2.2.2.2.2.2.2.2.1, a, b, c, w.2.2.2.2.2.2.2.2.2.2.2.2.2.1, w.2.2.2.2.2.2.2.2.2.2.2.2.2.2.1, w.2.2.2.2.2.2.2.2.2.2.2.2.2.2.2.1, w.2.2.2.2.2.2.2.2.2.2.2.2.2.2.2.2.1, w.2.2.2.2.2.2.2.2.2.2.2.2.2.2.2.2.2) else (1, w.2.1, w.2.2.1, w.2.2.2.1, w.2.2.2.2.1, w.2.2.2.2.2.1, w.2.2.2.2.2.2.1, w.2.2.2.2.2.2.2.1, w.2.2.2.2.2.2.2.2.1, w.2.2.2.2.2.2.2.2.2.1, w.2.2.2.2.2.2.2.2.2.2.1, w.2.2.2.2.2.2.2.2.2.2.2.1, w.2.2.2.2.2.2.2.2.2.2.2.2.1, a, b, c, w.2.2.2.2.2.2.2.2.2.2.2.2.2.1, w.2.2.2.2.2.2.2.2.2.2.2.2.2.2.1, w.2.2.2.2.2.2.2.2.2.2.2.2.2.2.2.1, w.2.2.2.2.2.2.2.2.2.2.2.2.2.2.2.2.1, w.2.2.2.2.2.2.2.2.2.2.2.2.2.2.2.2.2)) = suT w a b c := by
  unfold suT
  rcases h with h | h
  · rw [if_pos h, h]
  · rw [if_neg (by rw [h]; decide), h]
theorem QsR.fst {m : MS} {t cs nq : Nat} {S W : Nat → Int32} {Q : Nat → Nat → Int32} {F : Int32 → Int32 → Int32 → Nat → Int32} {tp bg en : Nat → Int32} {r : AT} {w : WT} (h : QsR g K V P N n e Lc m t cs nq S W Q F tp bg en r w) : w.1 = 0 ∨ w.1 = 1 := by
  rcases h with ⟨_, _, _, _, _, _, _, _, _, rfl, _⟩ | ⟨_, _, _, _, _, _, _, _, rfl, _⟩
  · exact Or.inr rfl
  · exact Or.inl rfl
set_option maxHeartbeats 40000000 in
set_option maxRecDepth 100000 in
theorem bins_top (L : LexR g K V P N n e pos) (R : LetR LO told lo Lc) {m : MS} {t0 j cs nq : Nat} {S W co lw hi tp bg en : Nat → Int32} {Q : Nat → Nat → Int32} (hq : nq < 12) (hK : K t0 = nI 8) (hat : At g K V N n e m (t0 + 1)) (hj : m.js = nI j) (hj2 : j ≤ 150) (hs : m.sz = nI (2 * cs)) (hc : cs ≤ t0) :
    ok_Par_asks K V S W (nI cs) Q (nI nq) LO (nI t0) (nI j) ∧ ok_Mo_readBins g (nI N) m.ks m.vs m.tk m.at_ m.pl m.kd m.vl m.dp m.js told lo m.co m.sz co lw hi tp bg en m.go m.wi m.gc (nI nq) ∧
    ((∃ (c t w' : Nat) (X Y : Int32) (m' : MS) (w : WT), c < 6 ∧ w' < 20 ∧ Y.toInt = X.toInt + w' ∧ t0 + 1 ≤ t ∧ m'.co = m.co ∧ s_Mo_readBins g (nI N) m.ks m.vs m.tk m.at_ m.pl m.kd m.vl m.dp m.js told lo m.co m.sz co lw hi tp bg en m.go m.wi m.gc (nI nq) = suT w (upd co nq (nI c)) (upd lw nq X) (upd hi nq Y) ∧ QsR g K V P N n e Lc m' t cs nq S W Q (fun x y z => qF 2 (nI c) X Y 1 x y z) tp bg en (s_Par_asks K V S W (nI cs) Q (nI nq) LO (nI t0) (nI j)) w) ∨
     (∃ t' : Nat, (s_Par_asks K V S W (nI cs) Q (nI nq) LO (nI t0) (nI j)).1 = 0 ∧ (s_Par_asks K V S W (nI cs) Q (nI nq) LO (nI t0) (nI j)).2.1 = nI t' ∧ t' ≤ n ∧ (s_Mo_readBins g (nI N) m.ks m.vs m.tk m.at_ m.pl m.kd m.vl m.dp m.js told lo m.co m.sz co lw hi tp bg en m.go m.wi m.gc (nI nq)).1 = 0 ∧ (s_Mo_readBins g (nI N) m.ks m.vs m.tk m.at_ m.pl m.kd m.vl m.dp m.js told lo m.co m.sz co lw hi tp bg en m.go m.wi m.gc (nI nq)).2.2.2.1 = P t')) := by
  sorry
end TOP5
