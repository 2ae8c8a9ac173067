/-! the class's state beside the reference's: the small calls -/
/-- v and w count the same n ≤ N; the first k * n places agree -/
def SeqR (N k : Nat) (f : Nat → Int32) (v : Int32) (g : Nat → Int32) (w : Int32) : Prop := ∃ n : Nat, n ≤ N ∧ v = nI n ∧ w = nI n ∧ ∀ i, i < k * n → f i = g i
theorem SeqR.upL {N k : Nat} {f g : Nat → Int32} {v w : Int32} (h : SeqR N k f v g w) (hN : N < 2 ^ 31) : up v N := by
  obtain ⟨n, h1, rfl, -, -⟩ := h
  exact up_of h1 hN
theorem SeqR.upR {N k : Nat} {f g : Nat → Int32} {v w : Int32} (h : SeqR N k f v g w) (hN : N < 2 ^ 31) : up w N := by
  obtain ⟨n, h1, -, rfl, -⟩ := h
  exact up_of h1 hN
theorem SeqR.cnt {N k : Nat} {f g : Nat → Int32} {v w : Int32} (h : SeqR N k f v g w) : v = w := by
  obtain ⟨n, -, rfl, rfl, -⟩ := h
  rfl
theorem upd_eq {f g : Nat → Int32} {k i : Nat} {x : Int32} (h : i ≠ k → f i = g i) : upd f k x i = upd g k x i := by
  by_cases c : i = k
  · subst c
    rw [pk_us, pk_us]
  · rw [pk_un c, pk_un c]
    exact h c
theorem ne_nI {a b : Nat} (ha : a < 2 ^ 31) (hb : b < 2 ^ 31) (h : a ≠ b) : ¬ nI a = nI b := fun e => h ((nI_eq ha hb).mp e)
/-! a literal on one side -/
theorem geL {a b : Nat} {N : Int32} (hN : N = nI b) (h : a < b) (hb : b < 2 ^ 31) : ¬ N ≤ nI a := by
  rw [hN]
  exact nI_ge h hb
theorem geR {a b : Nat} {N : Int32} (hN : N = nI a) (h : a < b) (hb : b < 2 ^ 31) : ¬ nI b ≤ N := by
  rw [hN]
  exact nI_ge h hb
theorem leL {a b : Nat} {N : Int32} (hN : N = nI a) (h : a ≤ b) (hb : b < 2 ^ 31) : N ≤ nI b := by
  rw [hN]
  exact nI_le h hb
theorem leR {a b : Nat} {N : Int32} (hN : N = nI b) (h : a ≤ b) (hb : b < 2 ^ 31) : nI a ≤ N := by
  rw [hN]
  exact nI_le h hb
theorem ltL {a b : Nat} {N : Int32} (hN : N = nI a) (h : a < b) (hb : b < 2 ^ 31) : N < nI b := by
  rw [hN]
  exact nI_lt h hb
theorem ltR {a b : Nat} {N : Int32} (hN : N = nI b) (h : a < b) (hb : b < 2 ^ 31) : nI a < N := by
  rw [hN]
  exact nI_lt h hb
theorem nltL {a b : Nat} {N : Int32} (hN : N = nI a) (h : b ≤ a) (hb : a < 2 ^ 31) : ¬ N < nI b := by
  rw [hN]
  exact nI_nlt h hb
theorem nltR {a b : Nat} {N : Int32} (hN : N = nI b) (h : b ≤ a) (hb : a < 2 ^ 31) : ¬ nI a < N := by
  rw [hN]
  exact nI_nlt h hb
theorem neR {k j : Nat} {N : Int32} (hN : N = nI j) (hk : k < 2 ^ 31) (hj : j < 2 ^ 31) (h : k ≠ j) : ¬ nI k = N := by
  rw [hN]
  exact ne_nI hk hj h
theorem if10 {α : Type} {a b : α} : (if (1 : Int32) = 0 then a else b) = b := if_neg (by decide)
/-! row -/
def u6 (f : Nat → Int32) (b : Nat) (x1 x2 x3 x4 x5 x6 : Int32) : Nat → Int32 := upd (upd (upd (upd (upd (upd f b x1) (b + 1) x2) (b + 2) x3) (b + 3) x4) (b + 4) x5) (b + 5) x6
theorem t_6' (n : Nat) : nI n * 6 = nI (6 * n) := by rw [t_6, Nat.mul_comm]
theorem r_row {f g : Nat → Int32} {v w x1 x2 x3 x4 x5 x6 : Int32} (h : SeqR 60 6 f v g w) :
    (s_PQ_row f v x1 x2 x3 x4 x5 x6).1 = (s_Mo_row g w x1 x2 x3 x4 x5 x6).1 ∧ SeqR 60 6 (s_PQ_row f v x1 x2 x3 x4 x5 x6).2.2 (s_PQ_row f v x1 x2 x3 x4 x5 x6).2.1 (s_Mo_row g w x1 x2 x3 x4 x5 x6).2.2 (s_Mo_row g w x1 x2 x3 x4 x5 x6).2.1 := by
  obtain ⟨n, hn, rfl, rfl, hs⟩ := h
  by_cases c : n < 60
  · have c1 : nI n < 60 := ltR (N := 60) (b := 60) rfl c (by decide)
    have c2 : ¬ nI n = 60 := neR (N := 60) (j := 60) rfl (by omega) (by decide) (by omega)
    have e0 : (nI (6 * n)).toNatClampNeg = 6 * n := nI_clamp (by omega)
    have e1 : (nI (6 * n) + 1).toNatClampNeg = 6 * n + 1 := pk_cl (6 * n + 1) (nI_add (6 * n) 1)
    have e2 : (nI (6 * n) + 2).toNatClampNeg = 6 * n + 2 := pk_cl (6 * n + 2) (nI_add (6 * n) 2)
    have e3 : (nI (6 * n) + 3).toNatClampNeg = 6 * n + 3 := pk_cl (6 * n + 3) (nI_add (6 * n) 3)
    have e4 : (nI (6 * n) + 4).toNatClampNeg = 6 * n + 4 := pk_cl (6 * n + 4) (nI_add (6 * n) 4)
    have e5 : (nI (6 * n) + 5).toNatClampNeg = 6 * n + 5 := pk_cl (6 * n + 5) (nI_add (6 * n) 5)
    have d1 : ¬ nI (6 * n) < 0 := nI_pos (by omega)
    have d2 : nI (6 * n) ≤ 360 - 6 := by
      rw [show (360 - 6 : Int32) = nI 354 from by decide]
      exact nI_le (by omega) (by decide)
    have ec : s_PQ_row f (nI n) x1 x2 x3 x4 x5 x6 = (nI n + 1 - 1, nI n + 1, u6 f (6 * n) x1 x2 x3 x4 x5 x6) := by
      unfold s_PQ_row s_Tab_add
      rw [if_pos c1, t_6', if_neg d1, if_pos d2, e0, e1, e2, e3, e4, e5]
      rfl
    have em : s_Mo_row g (nI n) x1 x2 x3 x4 x5 x6 = (nI n + 1 - 1, nI n + 1, u6 g (6 * n) x1 x2 x3 x4 x5 x6) := by
      unfold s_Mo_row
      rw [if_neg c2, mo_6, e0, e1, e2, e3, e4, e5]
      rfl
    rw [ec, em]
    refine ⟨rfl, n + 1, by omega, nI_1 n, nI_1 n, fun i hi => ?_⟩
    exact upd_eq fun c5 => upd_eq fun c4 => upd_eq fun c3 => upd_eq fun c2 => upd_eq fun c1 => upd_eq fun c0 => hs i (by omega)
  · have hn' : n = 60 := by omega
    subst hn'
    exact ⟨rfl, 60, by omega, rfl, rfl, hs⟩
/-! drop -/
theorem mo_drop_lp {n : Nat} (h1 : 1 ≤ n) (h2 : n ≤ 60) : ∀ (m i : Nat) (g : Nat → Int32), i + m = 6 * n - 6 → lp_Mo_drop_22 (nI n) (m + 1) (nI i) g = (nI (n - 1), nI (n - 1), fun j => if i ≤ j ∧ j < 6 * n - 6 then g (j + 6) else g j) := by
  intro m
  have hq : 6 * nI n - 6 = nI (6 * n - 6) := by
    rw [mo_6]
    exact pk_sub (b := 6) (by omega)
  have hp : nI n - 1 = nI (n - 1) := pk_sub (b := 1) h1
  induction m with
  | zero =>
    intro i g hi
    rw [lp_Mo_drop_22, hq, if_pos (nI_le (by omega) (by omega)), hp]
    congr 2
    funext j
    rw [if_neg (by omega)]
  | succ m ih =>
    intro i g hi
    rw [lp_Mo_drop_22, hq, if_neg (nI_ge (by omega) (by omega)), nI_1, ih (i + 1) _ (by omega)]
    congr 2
    funext j
    have e : (nI i + 6).toNatClampNeg = i + 6 := pk_cl (i + 6) (nI_add i 6)
    rw [nI_clamp (by omega), e]
    by_cases c : i ≤ j ∧ j < 6 * n - 6
    · rw [if_pos c]
      by_cases d : j = i
      · subst d
        rw [if_neg (by omega), pk_us]
      · rw [if_pos (by omega), pk_un (by omega)]
    · rw [if_neg c, if_neg (by omega), pk_un (by omega)]
theorem in_m1 {x : Int32} {n : Nat} (hn : n < 2 ^ 31) : s_Mo_in x 0 (nI n - 1) = if x < 0 then 0 else if nI n ≤ x then 0 else 1 := by
  unfold s_Mo_in
  by_cases c : x < 0
  · rw [if_pos c, if_pos c]
  · rw [if_neg c, if_neg c]
    have e : (nI n - 1).toInt = (n : Int) - 1 := by
      rw [i32_m1 (by rw [nI_toInt hn]; omega), nI_toInt hn]
    by_cases d : nI n ≤ x
    · rw [if_pos d, if_pos (by rw [Int32.le_iff_toInt_le, nI_toInt hn] at d; rw [Int32.lt_iff_toInt_lt, e]; omega)]
    · rw [if_neg d, if_neg (by rw [Int32.le_iff_toInt_le, nI_toInt hn] at d; rw [Int32.lt_iff_toInt_lt, e]; omega)]
theorem r_drop {f g : Nat → Int32} {v w x : Int32} (h : SeqR 60 6 f v g w) :
    ok_PQ_drop f v x ∧ (s_PQ_drop f v x).1 = (s_Mo_drop g w x).1 ∧ SeqR 60 6 (s_PQ_drop f v x).2.2 (s_PQ_drop f v x).2.1 (s_Mo_drop g w x).2.2 (s_Mo_drop g w x).2.1 := by
  have hu := h.upL (by decide)
  obtain ⟨n, hn, rfl, rfl, hs⟩ := h
  refine ⟨?_, ?_⟩
  · unfold ok_PQ_drop
    split
    · trivial
    · split
      · exact ⟨hu, trivial⟩
      · trivial
  unfold s_PQ_drop s_Mo_drop
  rw [in_m1 (by omega)]
  by_cases c : x < 0
  · rw [if_pos c, if_pos c]
    exact ⟨rfl, n, hn, rfl, rfl, hs⟩
  · rw [if_neg c, if_neg c]
    obtain ⟨r, hr, rfl⟩ := nI_of c
    by_cases d : r < n
    · rw [if_pos (nI_lt d (by omega)), if_neg (nI_ge d (by omega))]
      have e : ((((6 * nI n - 6).toInt - (6 * nI r).toInt).toNat) + 1) = (6 * n - 6 - 6 * r) + 1 := by
        rw [mo_6, mo_6, show nI (6 * n) - 6 = nI (6 * n - 6) from pk_sub (b := 6) (by omega), nI_toInt (by omega), nI_toInt (by omega)]
        omega
      dsimp only
      rw [if_neg (by decide), e, mo_6, mo_drop_lp (by omega) hn _ _ _ (by omega)]
      have ec : s_Tab_remove f (nI n) (nI r) = (nI (n - 1), va_cpy f f (6 * (r + 1)) (6 * r) (6 * n - 6 * (r + 1))) := by
        unfold s_Tab_remove
        rw [if_neg c, if_pos (nI_lt d (by omega)), nI_1, t_6', t_6', t_6', pk_sub (by omega), nI_clamp (by omega), nI_clamp (by omega), nI_clamp (by omega), show nI n - 1 = nI (n - 1) from pk_sub (b := 1) (by omega)]
      rw [ec]
      refine ⟨rfl, n - 1, by omega, rfl, rfl, fun i hi => ?_⟩
      show va_cpy f f (6 * (r + 1)) (6 * r) (6 * n - 6 * (r + 1)) i = if 6 * r ≤ i ∧ i < 6 * n - 6 then g (i + 6) else g i
      by_cases d2 : 6 * r ≤ i
      · rw [pk_cpy_in d2 (by omega), if_pos (by omega), hs _ (by omega)]
        congr 1
        omega
      · rw [pk_cpy_out (by omega), if_neg (by omega), hs i (by omega)]
    · rw [if_neg (nI_nlt (by omega) hr), if_pos (nI_le (by omega) hr)]
      exact ⟨rfl, n, hn, rfl, rfl, hs⟩
/-! draws -/
theorem r_draws {p q x z v w : Int32} {f g : Nat → Int32} (h : SeqR 3000 1 f v g w) :
    ok_PQ_draws p q f v x z ∧ (s_PQ_draws p q f v x z).1 = (s_Mo_draws p q g w x z).1 ∧ SeqR 3000 1 (s_PQ_draws p q f v x z).2.2 (s_PQ_draws p q f v x z).2.1 (s_Mo_draws p q g w x z).2.2 (s_Mo_draws p q g w x z).2.1 := by
  have hu := h.upL (by decide)
  obtain ⟨n, hn, rfl, rfl, hs⟩ := h
  have hc : ∀ y, s_Mo_isCell p q y = s_Tape_isCell p q y := fun y => rfl
  have e0 : (nI n).toNatClampNeg = n := nI_clamp (by omega)
  have hadd : ∀ {k : Nat} {F : Nat → Int32} {y : Int32}, k < 3000 → s_Tape_add F (nI k) y = (nI (k + 1), upd F k y) := by
    intro k F y hk
    unfold s_Tape_add
    rw [if_neg (geL (N := 3000) (b := 3000) rfl hk (by decide)), nI_1, nI_clamp (by omega)]
  unfold ok_PQ_draws s_PQ_draws s_Mo_draws
  dsimp only
  simp only [hc]
  by_cases cz : z = -1
  · rw [if_pos cz, if_pos cz, if_pos cz]
    by_cases c1 : s_Tape_isCell p q x = 0
    · rw [if_pos c1, if_pos c1, if_pos c1]
      exact ⟨trivial, rfl, n, hn, rfl, rfl, hs⟩
    · rw [if_neg c1, if_neg c1, if_neg c1]
      by_cases c2 : nI n + 1 ≤ 3000
      · have c3 : n + 1 ≤ 3000 := by
          rw [nI_1] at c2
          exact (nI_leI (b := 3000) (by omega) (by decide)).mp c2
        rw [if_pos c2, if_pos c2, if_pos c2, hadd (by omega), e0]
        refine ⟨⟨hu, trivial⟩, nI_1 n ▸ rfl, n + 1, by omega, rfl, nI_1 n, fun i hi => ?_⟩
        exact upd_eq fun c => hs i (by omega)
      · rw [if_neg c2, if_neg c2, if_neg c2]
        exact ⟨trivial, rfl, n, hn, rfl, rfl, hs⟩
  · rw [if_neg cz, if_neg cz, if_neg cz]
    by_cases c1 : s_Tape_isCell p q x = 0
    · rw [if_pos c1, if_pos c1, if_pos c1]
      exact ⟨trivial, rfl, n, hn, rfl, rfl, hs⟩
    · rw [if_neg c1, if_neg c1, if_neg c1]
      by_cases c4 : s_Tape_isCell p q z = 0
      · rw [if_pos c4, if_pos c4, if_pos c4]
        exact ⟨trivial, rfl, n, hn, rfl, rfl, hs⟩
      · rw [if_neg c4, if_neg c4, if_neg c4]
        by_cases c2 : nI n + 2 ≤ 3000
        · have c3 : n + 2 ≤ 3000 := by
            rw [show nI n + 2 = nI (n + 2) from nI_add n 2] at c2
            exact (nI_leI (b := 3000) (by omega) (by decide)).mp c2
          rw [if_pos c2, if_pos c2, if_pos c2, hadd (by omega)]
          dsimp only
          rw [hadd (by omega), e0, nI_1, nI_1, nI_clamp (by omega)]
          refine ⟨⟨hu, up_of (by omega) (by decide), trivial⟩, rfl, n + 2, by omega, rfl, rfl, fun i hi => ?_⟩
          exact upd_eq fun c => upd_eq fun c => hs i (by omega)
        · rw [if_neg c2, if_neg c2, if_neg c2]
          exact ⟨trivial, rfl, n, hn, rfl, rfl, hs⟩
/-! budget, ledger -/
theorem in04 (x : Int32) : s_Mo_in x 0 4 = s_Pur_isKnown x := rfl
theorem known_nI {x : Int32} (h : ¬ s_Pur_isKnown x = 0) : ∃ j : Nat, j < 5 ∧ x = nI j := by
  have h1 := vp_in_iff.mp (pu_in h)
  obtain ⟨n, hn, hn2, rfl⟩ := up_nI (v := x) (N := 4) ⟨h1.1, by omega⟩
  exact ⟨n, by omega, rfl⟩
def Arr5 (f g : Nat → Int32) : Prop := ∀ i, i < 5 → f i = g i
theorem r_budget {ga sp bu sq : Nat → Int32} {x z : Int32} (h1 : Arr5 ga bu) (h2 : Arr5 sp sq) :
    (s_PQ_budget ga sp x z).1 = (s_Mo_budget bu sq x z).1 ∧ Arr5 (s_PQ_budget ga sp x z).2 (s_Mo_budget bu sq x z).2 := by
  unfold s_PQ_budget s_Mo_budget
  rw [in04]
  dsimp only
  by_cases c : s_Pur_isKnown x = 0
  · rw [if_pos c, if_pos c]
    exact ⟨rfl, h1⟩
  · rw [if_neg c, if_neg c]
    have e1 : s_Pur_spentBy sp x = sp x.toNatClampNeg := if_neg c
    have e2 : s_Pur_grantedTo ga x = ga x.toNatClampNeg := if_neg c
    have e3 : s_Pur_grant ga x z = upd ga x.toNatClampNeg z := if_neg c
    rw [e1, e2, e3]
    obtain ⟨j, hj, rfl⟩ := known_nI c
    rw [nI_clamp (by omega), h1 j hj, h2 j hj]
    unfold s_Mo_in
    by_cases cz : z < 0
    · rw [if_pos cz, if_pos cz, if_pos rfl]
      exact ⟨rfl, h1⟩
    · rw [if_neg cz, if_neg cz]
      by_cases cz2 : z ≤ 1000000
      · have cz3 : ¬ (1000000 : Int32) < z := by
          rw [Int32.le_iff_toInt_le] at cz2
          rw [Int32.lt_iff_toInt_lt]
          omega
        rw [if_pos cz2, if_neg cz3, if10]
        by_cases cs : sq j ≤ z
        · rw [if_pos cs, if_pos cs]
          exact ⟨rfl, fun i hi => upd_eq fun _ => h1 i hi⟩
        · rw [if_neg cs, if_neg cs]
          exact ⟨rfl, h1⟩
      · have cz3 : (1000000 : Int32) < z := by
          rw [Int32.le_iff_toInt_le] at cz2
          rw [Int32.lt_iff_toInt_lt]
          omega
        rw [if_neg cz2, if_pos cz3, if_pos rfl]
        exact ⟨rfl, h1⟩
theorem left_eq {ga sp bu sq : Nat → Int32} {x : Int32} (h1 : Arr5 ga bu) (h2 : Arr5 sp sq) (c : ¬ s_Pur_isKnown x = 0) : s_Pur_leftTo ga sp x = bu x.toNatClampNeg - sq x.toNatClampNeg := by
  have e1 : s_Pur_spentBy sp x = sp x.toNatClampNeg := if_neg c
  have e2 : s_Pur_grantedTo ga x = ga x.toNatClampNeg := if_neg c
  unfold s_Pur_leftTo
  rw [e1, e2]
  obtain ⟨j, hj, rfl⟩ := known_nI c
  rw [nI_clamp (by omega), h1 j hj, h2 j hj]
theorem r_ledger {ga sp bu sq : Nat → Int32} {x z : Int32} (h1 : Arr5 ga bu) (h2 : Arr5 sp sq) : s_PQ_ledger ga sp x z = s_Mo_ledger bu sq x z := by
  unfold s_PQ_ledger s_Mo_ledger
  rw [in04]
  dsimp only
  by_cases c : s_Pur_isKnown x = 0
  · rw [if_pos c, if_pos c]
  · rw [if_neg c, if_neg c, left_eq h1 h2 c]
    have e1 : s_Pur_spentBy sp x = sp x.toNatClampNeg := if_neg c
    rw [e1]
    obtain ⟨j, hj, rfl⟩ := known_nI c
    rw [nI_clamp (by omega), h2 j hj]
    by_cases c0 : z = 0
    · subst c0
      rfl
    · by_cases c1 : z = 1
      · subst c1
        rfl
      · rw [if_neg c0, if_neg c0, if_neg c1]
        by_cases cz : z < 0
        · rw [if_pos cz]
        · rw [if_neg cz, if_neg (fun h => ?_)]
          obtain ⟨k, hk, rfl⟩ := nI_of cz
          have h9 := (nI_leI (b := 1) hk (by decide)).mp h
          have h8 : k = 0 ∨ k = 1 := by omega
          rcases h8 with rfl | rfl
          · exact c0 rfl
          · exact c1 rfl
/-! told, out -/
theorem r_told {f g : Nat → Int32} {v w x : Int32} (h : SeqR 240 1 f v g w) : s_PQ_told f v x = s_Mo_told g w x := by
  obtain ⟨n, hn, rfl, rfl, hs⟩ := h
  unfold s_PQ_told s_Mo_told
  rw [in_m1 (by omega)]
  dsimp only
  by_cases c : x < 0
  · rw [if_pos c, if_pos c, if_pos rfl]
  · rw [if_neg c, if_neg c]
    by_cases d : nI n ≤ x
    · rw [if_pos d, if_pos d, if_pos rfl]
    · rw [if_neg d, if_neg d, if10]
      obtain ⟨r, hr, rfl⟩ := nI_of c
      have d2 : r < n := by
        apply Nat.not_le.mp
        intro q
        exact d (nI_le q hr)
      rw [if_neg (geL (N := 240) (b := 240) rfl (by omega) (by decide)), nI_clamp hr]
      exact hs r (by omega)
theorem r_out {f g : Nat → Int32} {v w x : Int32} (h : SeqR 4000 1 f v g w) : ok_PQ_out f v x ∧ s_PQ_out f v x = s_Mo_out g w x := by
  have hu := h.upL (by decide)
  obtain ⟨n, hn, rfl, rfl, hs⟩ := h
  refine ⟨⟨hu, trivial⟩, ?_⟩
  unfold s_PQ_out s_Mo_out s_Out_signAt
  rw [in_m1 (by omega)]
  dsimp only
  by_cases c : x < 0
  · rw [if_pos c, if_pos c, if_pos rfl]
  · rw [if_neg c, if_neg c]
    by_cases d : nI n ≤ x
    · rw [if_pos d, if_pos d, if_pos rfl]
    · rw [if_neg d, if_neg d, if10]
      obtain ⟨r, hr, rfl⟩ := nI_of c
      have d2 : r < n := by
        apply Nat.not_le.mp
        intro q
        exact d (nI_le q hr)
      rw [nI_clamp hr]
      exact hs r (by omega)
/-! noise -/
theorem r_noise_lp {p q u : Int32} {f g : Nat → Int32} {n a t : Nat} (hn : n ≤ 3000) (hs : ∀ i, i < 1 * n → f i = g i) (hb : a + t + 1 ≤ n) : ∀ (m j : Nat), 1 ≤ j → j + m = t + 2 →
    lp_Tape_blockNoise p q f (nI n) (nI a) (nI t) m (q * (q - p)) u (nI j) (nI j) = lp_Mo_noiseAt_30 p q g (nI a) (nI t) m u (nI j) := by
  intro m
  induction m with
  | zero => intro j h1 h2; rfl
  | succ m ih =>
    intro j h1 h2
    rw [lp_Tape_blockNoise, lp_Mo_noiseAt_30]
    by_cases c : t < j
    · rw [if_pos (nI_lt c (by omega)), if_pos (nI_lt c (by omega))]
    · rw [if_neg (nI_nlt (by omega) (by omega)), if_neg (nI_nlt (by omega) (by omega)), nI_add]
      have e : s_Tape_at f (nI n) (nI (a + j)) = g (nI (a + j)).toNatClampNeg := by
        unfold s_Tape_at
        rw [if_neg (nI_pos (by omega)), if_neg (nI_ge (by omega) (by omega)), nI_clamp (by omega), hs _ (by omega)]
      dsimp only
      rw [e, nI_1, ih (j + 1) (by omega) (by omega)]
theorem r_blockNoise {p q : Int32} {f g : Nat → Int32} {n a t : Nat} (hn : n ≤ 3000) (hs : ∀ i, i < 1 * n → f i = g i) (hb : a + t + 1 ≤ n) : s_Tape_blockNoise p q f (nI n) (nI a) (nI t) = s_Mo_noiseAt p q g (nI a) (nI t) := by
  unfold s_Tape_blockNoise s_Mo_noiseAt
  have e : s_Tape_at f (nI n) (nI a) = g (nI a).toNatClampNeg := by
    unfold s_Tape_at
    rw [if_neg (nI_pos (by omega)), if_neg (nI_ge (by omega) (by omega)), nI_clamp (by omega), hs _ (by omega)]
  dsimp only
  rw [e]
  have e2 : ((nI t).toInt - (1 : Int32).toInt + 1).toNat + 1 = t + 1 := by
    rw [nI_toInt (by omega), i1]
    omega
  rw [e2]
  have h := r_noise_lp (p := p) (q := q) (u := g (nI a).toNatClampNeg) hn hs hb (t + 1) 1 (by omega) (by omega)
  by_cases c : q * (q - p) ≤ g (nI a).toNatClampNeg
  · rw [if_pos c, if_pos c]
    exact h
  · rw [if_neg c, if_neg c]
theorem up30 (z : Int32) : s_Mo_in z 0 30 = s_PQ_isUpTo z 30 := rfl
theorem upto_nI {x z : Int32} (h : ¬ s_PQ_isUpTo x z = 0) : ∃ j : Nat, (j : Int) ≤ z.toInt ∧ j < 2 ^ 31 ∧ x = nI j := by
  unfold s_PQ_isUpTo at h
  split at h
  · exact absurd rfl h
  · rename_i h1
    split at h
    · exact absurd rfl h
    · rename_i h2
      obtain ⟨j, hj, rfl⟩ := nI_of h1
      rw [Int32.lt_iff_toInt_lt, nI_toInt hj] at h2
      exact ⟨j, by omega, hj, rfl⟩
theorem r_noise {p q x z v w : Int32} {f g : Nat → Int32} (h : SeqR 3000 1 f v g w) : ok_PQ_noise p q f v x z ∧ s_PQ_noise p q f v x z = s_Mo_noise p q g w x z := by
  have hu := h.upL (by decide)
  obtain ⟨n, hn, rfl, rfl, hs⟩ := h
  unfold ok_PQ_noise s_PQ_noise s_Mo_noise
  rw [up30]
  dsimp only
  by_cases c : s_PQ_isUpTo z 30 = 0
  · rw [if_pos c, if_pos c, if_pos c]
    exact ⟨trivial, rfl⟩
  · rw [if_neg c, if_neg c, if_neg c]
    obtain ⟨t, ht, ht2, rfl⟩ := upto_nI c
    rw [show (30 : Int32).toInt = 30 by decide] at ht
    by_cases cx : 0 ≤ x
    · rw [if_pos cx, if_pos cx, if_pos cx]
      have cx' : ¬ x < 0 := by
        rw [Int32.le_iff_toInt_le] at cx
        rw [Int32.lt_iff_toInt_lt]
        omega
      obtain ⟨a, ha, rfl⟩ := nI_of cx'
      have k1 : nI a ≤ nI n - (nI t + 1) ↔ a + t + 1 ≤ n := by
        rw [nI_1, Int32.le_iff_toInt_le, nI_toInt ha, pk_sub_toInt (by omega) (by omega)]
        omega
      have k2 : lg_cmp ((nI a).toInt64 + (nI t).toInt64 + 1) (nI n).toInt64 ≤ 0 ↔ a + t + 1 ≤ n := by
        rw [lg_cmp_le, nI_l ha, nI_l ht2, nI_l (by omega)]
        have e : lN a + lN t + 1 = lN (a + t + 1) := by rw [lN_add, lN_1]
        rw [e, pk_lLE (by omega) (by omega)]
      by_cases d : a + t + 1 ≤ n
      · rw [if_pos (k1.mpr d), if_pos (k1.mpr d), if_pos (k2.mpr d)]
        refine ⟨⟨hu, by rw [nI_toInt ht2]; omega, trivial⟩, ?_⟩
        exact r_blockNoise hn hs d
      · rw [if_neg (fun q => d (k1.mp q)), if_neg (fun q => d (k1.mp q)), if_neg (fun q => d (k2.mp q))]
        exact ⟨trivial, rfl⟩
    · rw [if_neg cx, if_neg cx, if_neg cx]
      exact ⟨trivial, rfl⟩
