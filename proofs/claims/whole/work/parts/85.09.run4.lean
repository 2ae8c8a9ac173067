/-! all rows, all numbers, all tellings -/
section WORK2
variable {S W : Nat → Int32} {Q : Nat → Nat → Int32} {ls le : Nat → Int32} {nq nl : Nat} {C lb lE aS aC aL aH aB aT aG aE : Nat → Int32} {tb T : Nat → Int32} {n : Nat}
/-- the sum over all rows -/
def sumN (aS aL aH T : Nat → Int32) (cl : Nat → Nat) (Y : Nat → Nat → Int32) (i b r : Nat) : Int32 := accN (fun r => Y r i) (aS i) (aL i) (aH i) (fun r => T (6 * r + cl i)) b r
theorem wk_lp (R : ScrR S W Q ls le nq nl C lb lE aS aC aL aH aB aT aG aE) {nm tp cl by_ : Nat → Nat} (M : NmR Q nq aS aC aL aH aB aT nm tp cl by_) (hn : n ≤ 60) (hT : ∀ j, j < 6 * n → tb j = T j) {X Y : Nat → Nat → Int32} (hR : ∀ r, r < n → RowP S W Q ls le nq nl C lb lE aG aE tb T r (X r) (Y r)) : ∀ (k r b : Nat) (hg : Int32) (st ho nu : Nat → Int32), r + k = n → (∀ i, i < nq → ∀ b', b' < nm i → nu (plc nm i + b') = sumN aS aL aH T cl Y i b' r) →
    ∃ (x hg' : Int32) (st' ho' nu' : Nat → Int32), lp_Scr_work_7 S W Q (nI nq) ls le (nI nl) tb (nI n) (k + 1 + b) (nI r) hg st ho nu = (x, hg', st', ho', nu') ∧ (∀ i, i < nq → ∀ b', b' < nm i → nu' (plc nm i + b') = sumN aS aL aH T cl Y i b' n) ∧ oklp_Scr_work_7 S W Q (nI nq) ls le (nI nl) tb (nI n) (k + 1 + b) (nI r) hg st ho nu := by
  have hq12 := R.nq12
  intro k
  induction k with
  | zero =>
    intro r b hg st ho nu hr hh
    have hr' : r = n := by omega
    subst hr'
    have hle : nI r ≤ nI r := nI_le (Nat.le_refl _) (by omega)
    refine ⟨nI r, hg, st, ho, nu, ?_, hh, ?_⟩
    · rw [show 0 + 1 + b = b + 1 from by omega, lp_Scr_work_7, if_pos hle]
    · rw [show 0 + 1 + b = b + 1 from by omega, oklp_Scr_work_7, if_pos hle]
      trivial
  | succ k ih =>
    intro r b hg st ho nu hr hh
    have hlt : ¬ nI n ≤ nI r := nI_ge (by omega) (by omega)
    have hRr := hR r (by omega)
    obtain ⟨hg1, st1, ho1, e1, e2, e3⟩ := hRr.2.1 hg st ho
    obtain ⟨hg2, st2, nu2, u1, u2, -, u4⟩ := ent_lp R M (show r < n by omega) hn hT hRr e2 nq 0 (12 - nq) hg1 st1 nu (by omega)
    rw [show nq + 1 + (12 - nq) = 13 from by omega] at u1 u4
    have u1' : lp_Scr_enterRow_6 S W ho1 Q (nI nq) tb (nI r) 13 (0 : Int32) (0 : Int32) hg1 st1 nu = (hg2, st2, nu2) := u1
    obtain ⟨x, hg3, st3, ho3, nu3, q1, q2, q3⟩ := ih (r + 1) b hg2 st2 ho1 nu2 (by omega) (fun i hi b' hb' => by
      rw [u2 i (Nat.zero_le _) hi b' hb', hh i hi b' hb']
      rfl)
    refine ⟨x, hg3, st3, ho3, nu3, ?_, q2, ?_⟩
    · rw [show k + 1 + 1 + b = (k + 1 + b) + 1 from by omega, lp_Scr_work_7, if_neg hlt, e1]
      dsimp only
      rw [u1', nI_1]
      exact q1
    · rw [show k + 1 + 1 + b = (k + 1 + b) + 1 from by omega, oklp_Scr_work_7, if_neg hlt, e1]
      dsimp only
      rw [u1', nI_1]
      exact ⟨e3, u4, q3⟩
/-- what comes out for a question's bin -/
def resN (aS aL aH T : Nat → Int32) (cl by_ : Nat → Nat) (Y : Nat → Nat → Int32) (n i b : Nat) : Int32 := if aS i = 1 then sumN aS aL aH T cl Y i b n / nI (by_ i) else sumN aS aL aH T cl Y i b n
theorem nI_nz {b : Nat} (h1 : 1 ≤ b) (h2 : b < 2 ^ 31) : ¬ nI b = 0 := neR (N := 0) (j := 0) rfl h2 (by decide) (by omega)
theorem div_lp (R : ScrR S W Q ls le nq nl C lb lE aS aC aL aH aB aT aG aE) {nm tp cl by_ : Nat → Nat} (M : NmR Q nq aS aC aL aH aB aT nm tp cl by_) : ∀ (k i b : Nat) (w : Int32) (st ho nu : Nat → Int32), i + k = nq →
    ∃ nu' : Nat → Int32, lp_Scr_work_39 Q (nI nq) (k + 1 + b) (nI (plc nm i)) (nI i) w st ho nu = (w, st, ho, nu') ∧ (∀ i', i ≤ i' → i' < nq → ∀ b', b' < nm i' → nu' (plc nm i' + b') = if aS i' = 1 then nu (plc nm i' + b') / nI (by_ i') else nu (plc nm i' + b')) ∧ (∀ j, j < plc nm i → nu' j = nu j) ∧ oklp_Scr_work_39 Q (nI nq) (k + 1 + b) (nI (plc nm i)) (nI i) w st ho nu := by
  have hq12 := R.nq12
  have hpl := plc_le (nm := nm) (nq := nq) (fun i hi => (M i hi).2.1)
  intro k
  induction k with
  | zero =>
    intro i b w st ho nu hi
    have hle : nI nq ≤ nI i := nI_le (by omega) (by omega)
    refine ⟨nu, ?_, fun i' h1 h2 => absurd h2 (by omega), fun j _ => rfl, ?_⟩
    · rw [show 0 + 1 + b = b + 1 from by omega, lp_Scr_work_39, if_pos hle]
    · rw [show 0 + 1 + b = b + 1 from by omega, oklp_Scr_work_39, if_pos hle]
      trivial
  | succ k ih =>
    intro i b w st ho nu hi
    have hlt : ¬ nI nq ≤ nI i := nI_ge (by omega) (by omega)
    obtain ⟨m1, m2, m3, m4, m5, m6, m7, m8, m9, m10, m11, m12, m13, m14, m15, m16⟩ := M i (by omega)
    have q0 : Q i 0 = aS i := (R.qs i (by omega)).1
    have hp1 := hpl (i + 1) (by omega)
    have hps : plc nm (i + 1) = plc nm i + nm i := rfl
    have hmono : ∀ i', i + 1 ≤ i' → plc nm (i + 1) ≤ plc nm i' := fun i' h => by
      have := plc_mono (nm := nm) (i' - (i + 1)) (i + 1)
      rw [show i + 1 + (i' - (i + 1)) = i' from by omega] at this
      exact this
    have hnx : nI (plc nm i) + nI (nm i) = nI (plc nm (i + 1)) := by rw [nI_add, hps]
    have d0 : ¬ nI (plc nm i) < 0 := nI_pos (by omega)
    have d1 : ¬ (240 : Int32) ≤ nI (plc nm i) := geL (N := 240) (b := 240) rfl (by omega) (by decide)
    -- what divide does
    have hd : ∃ nu1 : Nat → Int32, s_Qu_divide (Q i 0) (Q i 4) nu (nI (plc nm i)) = nu1 ∧ (∀ j, j < plc nm i ∨ plc nm i + nm i ≤ j → nu1 j = nu j) ∧ (∀ b', b' < nm i → nu1 (plc nm i + b') = if aS i = 1 then nu (plc nm i + b') / nI (by_ i) else nu (plc nm i + b')) ∧ ok_Qu_divide (Q i 0) (Q i 4) (nI (plc nm i)) := by
      unfold s_Qu_divide ok_Qu_divide
      rw [q0, m16]
      by_cases c : aS i = 1
      · have hm := m8 (by rw [c]; decide)
        rw [if_pos c, if_pos c]
        by_cases d : nI (by_ i) ≤ 1
        · have hb1 : by_ i = 1 := by
            have := (nI_leI (b := 1) (show by_ i < 2 ^ 31 by omega) (by decide)).mp d
            omega
          rw [if_pos d, if_pos d]
          refine ⟨nu, rfl, fun j _ => rfl, fun b' _ => ?_, trivial⟩
          rw [if_pos c, hb1, show nI 1 = 1 from rfl, Int32.div_one]
        · rw [if_neg d, if_neg d, if_neg d0, if_neg d0, if_neg d1, if_neg d1, nI_clamp (by omega)]
          refine ⟨_, rfl, fun j hj => pk_un (by omega), fun b' hb' => ?_, nI_nz m13 (by omega), trivial⟩
          have : b' = 0 := by omega
          subst this
          rw [Nat.add_zero, pk_us, if_pos c]
      · rw [if_neg c, if_neg c]
        exact ⟨nu, rfl, fun j _ => rfl, fun b' _ => by rw [if_neg c], trivial⟩
    obtain ⟨nu1, h1, h2, h3, h4⟩ := hd
    obtain ⟨nu2, g1, g2, g3, g4⟩ := ih (i + 1) b w st ho nu1 (by omega)
    refine ⟨nu2, ?_, fun i' k1 k2 b' hb' => ?_, fun j hj => ?_, ?_⟩
    · rw [show k + 1 + 1 + b = (k + 1 + b) + 1 from by omega, lp_Scr_work_39, if_neg hlt, sqj_nI (by omega)]
      dsimp only
      rw [h1, m4, hnx, nI_1]
      exact g1
    · by_cases c : i' = i
      · subst c
        rw [g3 _ (by omega), h3 b' hb']
      · rw [g2 i' (by omega) k2 b' hb', h2 _ (Or.inr (by have := hmono i' (by omega); omega))]
    · rw [g3 j (by omega), h2 j (Or.inl hj)]
    · rw [show k + 1 + 1 + b = (k + 1 + b) + 1 from by omega, oklp_Scr_work_39, if_neg hlt, sqj_nI (by omega)]
      dsimp only
      rw [h1, m4, hnx, nI_1]
      exact ⟨h4, g4⟩
theorem fill_lp : ∀ (k i b : Nat) (g : Nat → Int32), i + k = 240 → (∀ j, i ≤ j → j < 240 → lp_Arr_fill240_5 0 (k + 1 + b) (nI i) g j = 0) ∧ (∀ j, j < i → lp_Arr_fill240_5 0 (k + 1 + b) (nI i) g j = g j) ∧ oklp_Arr_fill240_5 0 (k + 1 + b) (nI i) g := by
  intro k
  induction k with
  | zero =>
    intro i b g hi
    have hle : (240 : Int32) ≤ nI i := leL (N := 240) (a := 240) rfl (by omega) (by omega)
    rw [show 0 + 1 + b = b + 1 from by omega, lp_Arr_fill240_5, oklp_Arr_fill240_5, if_pos hle, if_pos hle]
    exact ⟨fun j h1 h2 => absurd h2 (by omega), fun _ _ => rfl, trivial⟩
  | succ k ih =>
    intro i b g hi
    have hlt : ¬ (240 : Int32) ≤ nI i := geL (N := 240) (b := 240) rfl (by omega) (by decide)
    obtain ⟨h1, h2, h3⟩ := ih (i + 1) b (upd g i 0) (by omega)
    rw [show k + 1 + 1 + b = (k + 1 + b) + 1 from by omega, lp_Arr_fill240_5, oklp_Arr_fill240_5, if_neg hlt, if_neg hlt, nI_clamp (by omega), nI_1]
    refine ⟨fun j k1 k2 => ?_, fun j k1 => ?_, vp_in_nI (by omega) (by decide), h3⟩
    · by_cases c : j = i
      · subst c
        rw [h2 _ (by omega), pk_us]
      · exact h1 j (by omega) k2
    · rw [h2 j (by omega), pk_un (by omega)]
/-- the class's work -/
theorem work_eq (R : ScrR S W Q ls le nq nl C lb lE aS aC aL aH aB aT aG aE) {nm tp cl by_ : Nat → Nat} (M : NmR Q nq aS aC aL aH aB aT nm tp cl by_) (hn : n ≤ 60) (hT : ∀ j, j < 6 * n → tb j = T j) {X Y : Nat → Nat → Int32} (hR : ∀ r, r < n → RowP S W Q ls le nq nl C lb lE aG aE tb T r (X r) (Y r)) (hg : Int32) (st ho nu : Nat → Int32) :
    ∃ (hg' : Int32) (st' ho' nu' : Nat → Int32), s_Scr_work S W st hg ho Q (nI nq) ls le (nI nl) tb (nI n) nu = (hg', st', ho', nu') ∧ (∀ i, i < nq → ∀ b', b' < nm i → nu' (plc nm i + b') = resN aS aL aH T cl by_ Y n i b') ∧ ok_Scr_work S W st hg ho Q (nI nq) ls le (nI nl) tb (nI n) nu := by
  have hq12 := R.nq12
  have hpl := plc_le (nm := nm) (nq := nq) (fun i hi => (M i hi).2.1)
  obtain ⟨f1, -, f3⟩ := fill_lp 240 0 0 nu (by omega)
  have f1' : ∀ j, 0 ≤ j → j < 240 → lp_Arr_fill240_5 0 241 (0 : Int32) nu j = 0 := f1
  have f3' : ok_Arr_fill240 nu 0 := f3
  unfold s_Scr_work ok_Scr_work
  dsimp only
  generalize lp_Arr_fill240_5 0 241 (0 : Int32) nu = nu0 at f1' ⊢
  obtain ⟨x, hg1, st1, ho1, nu1, w1, w2, w3⟩ := wk_lp R M hn hT hR n 0 (60 - n) hg st ho nu0 (by omega) (fun i hi b' hb' => by
    have h1 := hpl (i + 1) (by omega)
    have hps : plc nm (i + 1) = plc nm i + nm i := rfl
    rw [f1' _ (Nat.zero_le _) (by omega)]
    rfl)
  rw [show n + 1 + (60 - n) = 61 from by omega] at w1 w3
  have w1' : lp_Scr_work_7 S W Q (nI nq) ls le (nI nl) tb (nI n) 61 (0 : Int32) hg st ho nu0 = (x, hg1, st1, ho1, nu1) := w1
  rw [w1']
  dsimp only
  obtain ⟨nu2, d1, d2, -, d4⟩ := div_lp R M nq 0 (12 - nq) hg1 st1 ho1 nu1 (by omega)
  rw [show nq + 1 + (12 - nq) = 13 from by omega] at d1 d4
  refine ⟨hg1, st1, ho1, nu2, d1, fun i hi b' hb' => ?_, f3', w3, d4⟩
  rw [d2 i (Nat.zero_le _) hi b' hb', w2 i hi b' hb']
  rfl
/-- the reference's number -/
theorem num_eq (R : ScrR S W Q ls le nq nl C lb lE aS aC aL aH aB aT aG aE) {nm tp cl by_ : Nat → Nat} (M : NmR Q nq aS aC aL aH aB aT nm tp cl by_) (hn : n ≤ 60) {X Y : Nat → Nat → Int32} (hR : ∀ r, r < n → RowP S W Q ls le nq nl C lb lE aG aE tb T r (X r) (Y r)) {i b' : Nat} (hi : i < nq) (p lv : Nat → Int32) :
    ∃ p' lv' : Nat → Int32, s_Mo_numberOf T (nI n) (nI nl) C lb lE aS aC aL aH aB aG aE p lv (nI i) (nI b') = (resN aS aL aH T cl by_ Y n i b', p', lv') ∧ ok_Mo_numberOf T (nI n) (nI nl) C lb lE aS aC aL aH aB aG aE p lv (nI i) (nI b') := by
  have hq12 := R.nq12
  obtain ⟨m1, m2, m3, m4, m5, m6, m7, m8, m9, m10, m11, m12, m13, m14, m15, m16⟩ := M i hi
  have hin : vp_in (nI i) 12 := vp_in_nI (by omega) (by decide)
  obtain ⟨p1, lv1, e1, e2⟩ := num_lp (tb := tb) R M hn hR (i := i) (b' := b') hi n 0 (60 - n) p lv (by omega)
  rw [show n + 1 + (60 - n) = 61 from by omega] at e1 e2
  have e1' : lp_Mo_numberOf_5 T (nI n) (nI nl) C lb lE aS aC aL aH aG aE (nI i) (nI b') 61 (0 : Int32) (0 : Int32) p lv = (sumN aS aL aH T cl Y i b' n, nI n, p1, lv1) := e1
  have e2' : oklp_Mo_numberOf_5 T (nI n) (nI nl) C lb lE aS aC aL aH aG aE (nI i) (nI b') 61 (0 : Int32) (0 : Int32) p lv := e2
  refine ⟨p1, lv1, ?_, ?_⟩
  · unfold s_Mo_numberOf resN
    rw [e1', nI_clamp (show i < 2 ^ 31 by omega), m15]
    dsimp only
    by_cases c : aS i = 1
    · rw [if_pos c, if_pos c]
    · rw [if_neg c, if_neg c]
  · unfold ok_Mo_numberOf
    rw [e1', nI_clamp (show i < 2 ^ 31 by omega), m15]
    dsimp only
    refine ⟨e2', hin, ?_⟩
    by_cases c : aS i = 1
    · rw [if_pos c]
      exact ⟨hin, nI_nz m13 (by omega), trivial⟩
    · rw [if_neg c]
      trivial
/-- where the cells of question i begin -/
def cst (nm tp : Nat → Nat) : Nat → Nat
  | 0 => 0
  | i + 1 => cst nm tp i + nm i * (tp i + 1)
theorem cst_le {nm tp : Nat → Nat} {nq : Nat} (h : ∀ i, i < nq → nm i ≤ 20 ∧ tp i ≤ 30) : ∀ i, i ≤ nq → cst nm tp i ≤ 620 * i := by
  intro i
  induction i with
  | zero => intro _; exact Nat.zero_le _
  | succ i ih =>
    intro hi
    have h1 := ih (by omega)
    obtain ⟨h2, h3⟩ := h i (by omega)
    have h4 : nm i * (tp i + 1) ≤ 20 * 31 := Nat.mul_le_mul h2 (by omega)
    show cst nm tp i + nm i * (tp i + 1) ≤ 620 * (i + 1)
    omega
theorem cst_mono {nm tp : Nat → Nat} : ∀ k i, cst nm tp i ≤ cst nm tp (i + k) := by
  intro k
  induction k with
  | zero => intro i; exact Nat.le_refl _
  | succ k ih =>
    intro i
    have := ih i
    show cst nm tp i ≤ cst nm tp (i + k) + nm (i + k) * (tp (i + k) + 1)
    omega
/-- all the cells, all the numbers -/
theorem all_cells {nm tp cl by_ : Nat → Nat} (hq : nq ≤ 12) (M : NmR Q nq aS aC aL aH aB aT nm tp cl by_) : ∀ (k i b : Nat), i + k = nq → lp_Scr_all_4 Q (nI nq) 4 (k + 1 + b) (nI (cst nm tp i)) (nI i) = nI (cst nm tp nq) := by
  intro k
  induction k with
  | zero =>
    intro i b hi
    have hi' : i = nq := by omega
    subst hi'
    rw [show 0 + 1 + b = b + 1 from by omega, lp_Scr_all_4, if_pos (nI_le (Nat.le_refl _) (by omega))]
  | succ k ih =>
    intro i b hi
    obtain ⟨m1, m2, m3, m4, m5, m6, m7, -⟩ := M i (by omega)
    have e : s_Qu_part (Q i 0) (Q i 2) (Q i 3) (Q i 4) (Q i 5) 4 = nI (nm i * (tp i + 1)) := by
      unfold s_Qu_part
      rw [if_neg (by decide), if_neg (by decide), if_neg (by decide), if_neg (by decide), if_pos rfl, m4, m7, nI_1]
      exact pk_mul _ _
    rw [show k + 1 + 1 + b = (k + 1 + b) + 1 from by omega, lp_Scr_all_4, if_neg (nI_ge (by omega) (by omega)), sqj_nI (by omega)]
    dsimp only
    rw [e, nI_add, nI_1]
    exact ih (i + 1) b (by omega)
theorem all_nums {nm tp cl by_ : Nat → Nat} (hq : nq ≤ 12) (M : NmR Q nq aS aC aL aH aB aT nm tp cl by_) : ∀ (k i b : Nat), i + k = nq → lp_Scr_all_4 Q (nI nq) 2 (k + 1 + b) (nI (plc nm i)) (nI i) = nI (plc nm nq) := by
  intro k
  induction k with
  | zero =>
    intro i b hi
    have hi' : i = nq := by omega
    subst hi'
    rw [show 0 + 1 + b = b + 1 from by omega, lp_Scr_all_4, if_pos (nI_le (Nat.le_refl _) (by omega))]
  | succ k ih =>
    intro i b hi
    obtain ⟨m1, m2, m3, m4, -⟩ := M i (by omega)
    have e : s_Qu_part (Q i 0) (Q i 2) (Q i 3) (Q i 4) (Q i 5) 2 = nI (nm i) := by
      unfold s_Qu_part
      rw [if_neg (by decide), if_neg (by decide), if_pos rfl, m4]
    rw [show k + 1 + 1 + b = (k + 1 + b) + 1 from by omega, lp_Scr_all_4, if_neg (nI_ge (by omega) (by omega)), sqj_nI (by omega)]
    dsimp only
    rw [e, nI_add, nI_1]
    exact ih (i + 1) b (by omega)
theorem bring_eq (v : Int32) {t : Nat} (ht : t < 2 ^ 31) : s_PQ_nearest v 0 (nI t) = s_Mo_bring v (nI t) := near_0 (nI_pos' ht)
/-- the tellings of one question -/
theorem bl_lp (R : ScrR S W Q ls le nq nl C lb lE aS aC aL aH aB aT aG aE) {nm tp cl by_ : Nat → Nat} (M : NmR Q nq aS aC aL aH aB aT nm tp cl by_) (hn : n ≤ 60) {X Y : Nat → Nat → Int32} (hR : ∀ r, r < n → RowP S W Q ls le nq nl C lb lE aG aE tb T r (X r) (Y r)) {P Z : Int32} {N : Nat} {ce ta : Nat → Int32} (hN : N ≤ 3000) (hs : ∀ i, i < 1 * N → ce i = ta i) (hc : cst nm tp nq ≤ N) {i : Nat} (hi : i < nq) : ∀ (k b f1 f2 : Nat) (nu to p lv : Nat → Int32), b + k = nm i → (∀ c, b ≤ c → c < nm i → nu (plc nm i + c) = resN aS aL aH T cl by_ Y n i c) → (∀ j, j < plc nm i + b → nu j = to j) →
    ∃ nu' to' p' lv' : Nat → Int32, lp_PQ_blur_30 P Z ce (nI N) Q (nI i) (k + 1 + f1) (nI (cst nm tp i + b * (tp i + 1))) (nI (plc nm i + b)) (nI b) nu = (nI (cst nm tp (i + 1)), nI (plc nm (i + 1)), nI (nm i), nu') ∧
      lp_Mo_run_125 P Z T (nI n) ta (nI nl) C lb lE aS aC aL aH aB aT aG aE (nI i) (k + 1 + f2) (nI (cst nm tp i + b * (tp i + 1))) (nI b) (nI (plc nm i + b)) to p lv = (nI (cst nm tp (i + 1)), nI (nm i), nI (plc nm (i + 1)), to', p', lv') ∧
      (∀ j, j < plc nm (i + 1) → nu' j = to' j) ∧ (∀ j, plc nm (i + 1) ≤ j → nu' j = nu j) ∧
      oklp_PQ_blur_30 P Z ce (nI N) Q (nI i) (k + 1 + f1) (nI (cst nm tp i + b * (tp i + 1))) (nI (plc nm i + b)) (nI b) nu ∧
      oklp_Mo_run_125 P Z T (nI n) ta (nI nl) C lb lE aS aC aL aH aB aT aG aE (nI i) (k + 1 + f2) (nI (cst nm tp i + b * (tp i + 1))) (nI b) (nI (plc nm i + b)) to p lv := by
  have hq12 := R.nq12
  have hpl := plc_le (nm := nm) (nq := nq) (fun i hi => (M i hi).2.1) (i + 1) (by omega)
  have hps : plc nm (i + 1) = plc nm i + nm i := rfl
  have hcm : cst nm tp (i + 1) ≤ cst nm tp nq := by
    have := cst_mono (nm := nm) (tp := tp) (nq - (i + 1)) (i + 1)
    rw [show i + 1 + (nq - (i + 1)) = nq from by omega] at this
    exact this
  have hcs : cst nm tp (i + 1) = cst nm tp i + nm i * (tp i + 1) := rfl
  obtain ⟨m1, m2, m3, m4, m5, m6, m7, -⟩ := M i hi
  have hin : vp_in (nI i) 12 := vp_in_nI (by omega) (by decide)
  have hup : up (nI i) 11 := up_of (by omega) (by decide)
  have htop : (nI (tp i)).toInt = (tp i : Int) := nI_toInt (by omega)
  intro k
  induction k with
  | zero =>
    intro b f1 f2 nu to p lv hb h1 h2
    have hb' : b = nm i := by omega
    subst hb'
    have hle : nI (nm i) ≤ nI (nm i) := nI_le (Nat.le_refl _) (by omega)
    refine ⟨nu, to, p, lv, ?_, ?_, h2, fun j _ => rfl, ?_, ?_⟩
    · rw [show 0 + 1 + f1 = f1 + 1 from by omega, lp_PQ_blur_30, sqj_nI (by omega), m4]
      dsimp only
      rw [if_pos hle]
      rfl
    · rw [show 0 + 1 + f2 = f2 + 1 from by omega, lp_Mo_run_125, m5]
      dsimp only
      rw [if_pos hle]
      rfl
    · rw [show 0 + 1 + f1 = f1 + 1 from by omega, oklp_PQ_blur_30, sqj_nI (by omega), m4]
      dsimp only
      rw [if_pos hle]
      trivial
    · rw [show 0 + 1 + f2 = f2 + 1 from by omega, oklp_Mo_run_125, m5]
      dsimp only
      rw [if_pos hle]
      exact ⟨hup, trivial⟩
  | succ k ih =>
    intro b f1 f2 nu to p lv hb h1 h2
    have hlt : ¬ nI (nm i) ≤ nI b := nI_ge (by omega) (by omega)
    have h240 : ¬ (240 : Int32) ≤ nI (plc nm i + b) := geL (N := 240) (b := 240) rfl (by omega) (by decide)
    have hi2 : vp_in (nI (plc nm i + b)) 240 := vp_in_nI (by omega) (by decide)
    have hmul : (b + 1) * (tp i + 1) ≤ nm i * (tp i + 1) := Nat.mul_le_mul_right _ (by omega)
    have hmul2 : (b + 1) * (tp i + 1) = b * (tp i + 1) + (tp i + 1) := Nat.succ_mul _ _
    obtain ⟨p1, lv1, e1, e2⟩ := num_eq (tb := tb) R M hn hR (i := i) (b' := b) hi p lv
    have hbn : s_Tape_blockNoise P Z ce (nI N) (nI (cst nm tp i + b * (tp i + 1))) (nI (tp i)) = s_Mo_noiseAt P Z ta (nI (cst nm tp i + b * (tp i + 1))) (nI (tp i)) := r_blockNoise hN hs (by omega)
    have hnx : nI (cst nm tp i + b * (tp i + 1)) + nI (tp i + 1) = nI (cst nm tp i + (b + 1) * (tp i + 1)) := by
      rw [nI_add]
      congr 1
      omega
    have hnu := h1 b (Nat.le_refl _) (by omega)
    generalize hv : s_Mo_bring (s_Mo_bring (resN aS aL aH T cl by_ Y n i b) (nI (tp i)) + s_Mo_noiseAt P Z ta (nI (cst nm tp i + b * (tp i + 1))) (nI (tp i))) (nI (tp i)) = v
    obtain ⟨nu2, to2, p2, lv2, q1, q2, q3, q4, q5, q6⟩ := ih (b + 1) f1 f2 (upd nu (plc nm i + b) v) (upd to (plc nm i + b) v) p1 lv1 (by omega) (fun c k1 k2 => by
      rw [pk_un (by omega)]
      exact h1 c (by omega) k2) (fun j hj => upd_eq fun c => h2 j (by omega))
    have hcell : (nI (cst nm tp i + b * (tp i + 1))).toInt = ((cst nm tp i + b * (tp i + 1) : Nat) : Int) := nI_toInt (by omega)
    refine ⟨nu2, to2, p2, lv2, ?_, ?_, q3, fun j hj => ?_, ?_, ?_⟩
    · rw [show k + 1 + 1 + f1 = (k + 1 + f1) + 1 from by omega, lp_PQ_blur_30, sqj_nI (by omega), m4, m7]
      dsimp only
      rw [if_neg hlt, if_neg h240, nI_clamp (by omega), hnu, hbn, bring_eq _ (by omega), bring_eq _ (by omega), hv, nI_1, nI_1, nI_1, hnx]
      exact q1
    · rw [show k + 1 + 1 + f2 = (k + 1 + f2) + 1 from by omega, lp_Mo_run_125, m5, e1, nI_clamp (show i < 2 ^ 31 by omega), m6]
      dsimp only
      rw [if_neg hlt, nI_clamp (show plc nm i + b < 2 ^ 31 by omega), hv, nI_1, nI_1, nI_1, hnx]
      exact q2
    · rw [q4 j hj, pk_un (by omega)]
    · rw [show k + 1 + 1 + f1 = (k + 1 + f1) + 1 from by omega, oklp_PQ_blur_30, sqj_nI (by omega), m4, m7]
      dsimp only
      rw [if_neg hlt, if_neg h240, nI_clamp (by omega), hnu, hbn, bring_eq _ (by omega), bring_eq _ (by omega), hv, nI_1, nI_1, nI_1, hnx]
      exact ⟨hi2, up_of hN (by decide), by rw [htop]; omega, hi2, q5⟩
    · rw [show k + 1 + 1 + f2 = (k + 1 + f2) + 1 from by omega, oklp_Mo_run_125, m5, e1, nI_clamp (show i < 2 ^ 31 by omega), m6]
      dsimp only
      rw [if_neg hlt, nI_clamp (show plc nm i + b < 2 ^ 31 by omega), hv, nI_1, nI_1, nI_1, hnx]
      exact ⟨hup, e2, hin, hin, by rw [hcell]; omega, by rw [hcell, htop]; omega, by rw [htop]; omega, by rw [htop]; omega, hin, hi2, hin, q6⟩
theorem bo_lp (R : ScrR S W Q ls le nq nl C lb lE aS aC aL aH aB aT aG aE) {nm tp cl by_ : Nat → Nat} (M : NmR Q nq aS aC aL aH aB aT nm tp cl by_) (hn : n ≤ 60) {X Y : Nat → Nat → Int32} (hR : ∀ r, r < n → RowP S W Q ls le nq nl C lb lE aG aE tb T r (X r) (Y r)) {P Z : Int32} {N : Nat} {ce ta : Nat → Int32} (hN : N ≤ 3000) (hs : ∀ i, i < 1 * N → ce i = ta i) (hc : cst nm tp nq ≤ N) (u2 u3 : Int32) (sp : Nat → Int32) : ∀ (k i f1 f2 : Nat) (nu to p lv : Nat → Int32), i + k = nq → (∀ i', i ≤ i' → i' < nq → ∀ c, c < nm i' → nu (plc nm i' + c) = resN aS aL aH T cl by_ Y n i' c) → (∀ j, j < plc nm i → nu j = to j) →
    ∃ nu' to' p' lv' : Nat → Int32, lp_PQ_blur_6 P Z ce (nI N) Q (nI nq) (k + 1 + f1) (nI (cst nm tp i)) (nI (plc nm i)) (nI i) nu = (nI (cst nm tp nq), nu') ∧
      lp_Mo_run_113 P Z T (nI n) ta (nI nl) (nI nq) C lb lE aS aC aL aH aB aT aG aE (k + 1 + f2) u2 u3 (nI (cst nm tp i)) (nI i) to p lv (nI (plc nm i)) sp = (nI (cst nm tp nq), nI nq, to', p', lv', nI (plc nm nq)) ∧
      (∀ j, j < plc nm nq → nu' j = to' j) ∧
      oklp_PQ_blur_6 P Z ce (nI N) Q (nI nq) (k + 1 + f1) (nI (cst nm tp i)) (nI (plc nm i)) (nI i) nu ∧
      oklp_Mo_run_113 P Z T (nI n) ta (nI nl) (nI nq) C lb lE aS aC aL aH aB aT aG aE (k + 1 + f2) u2 u3 (nI (cst nm tp i)) (nI i) to p lv (nI (plc nm i)) sp := by
  have hq12 := R.nq12
  intro k
  induction k with
  | zero =>
    intro i f1 f2 nu to p lv hi h1 h2
    have hi' : i = nq := by omega
    subst hi'
    have hle : nI i ≤ nI i := nI_le (Nat.le_refl _) (by omega)
    refine ⟨nu, to, p, lv, ?_, ?_, h2, ?_, ?_⟩
    · rw [show 0 + 1 + f1 = f1 + 1 from by omega, lp_PQ_blur_6, if_pos hle]
    · rw [show 0 + 1 + f2 = f2 + 1 from by omega, lp_Mo_run_113, if_pos hle]
    · rw [show 0 + 1 + f1 = f1 + 1 from by omega, oklp_PQ_blur_6, if_pos hle]
      trivial
    · rw [show 0 + 1 + f2 = f2 + 1 from by omega, oklp_Mo_run_113, if_pos hle]
      trivial
  | succ k ih =>
    intro i f1 f2 nu to p lv hi h1 h2
    have hlt : ¬ nI nq ≤ nI i := nI_ge (by omega) (by omega)
    have hm := (M i (by omega)).2.1
    obtain ⟨nu1, to1, p1, lv1, e1, e2, e3, e4, e5, e6⟩ := bl_lp (P := P) (Z := Z) (ce := ce) (ta := ta) (tb := tb) R M hn hR hN hs hc (i := i) (by omega) (nm i) 0 (240 - nm i) (20 - nm i) nu to p lv (by omega) (fun c _ k2 => h1 i (Nat.le_refl _) (by omega) c k2) (fun j hj => h2 j hj)
    rw [show nm i + 1 + (240 - nm i) = 241 from by omega, Nat.zero_mul, Nat.add_zero, Nat.add_zero] at e1 e5
    rw [show nm i + 1 + (20 - nm i) = 21 from by omega, Nat.zero_mul, Nat.add_zero, Nat.add_zero] at e2 e6
    have e1' : lp_PQ_blur_30 P Z ce (nI N) Q (nI i) 241 (nI (cst nm tp i)) (nI (plc nm i)) (0 : Int32) nu = (nI (cst nm tp (i + 1)), nI (plc nm (i + 1)), nI (nm i), nu1) := e1
    have e2' : lp_Mo_run_125 P Z T (nI n) ta (nI nl) C lb lE aS aC aL aH aB aT aG aE (nI i) 21 (nI (cst nm tp i)) (0 : Int32) (nI (plc nm i)) to p lv = (nI (cst nm tp (i + 1)), nI (nm i), nI (plc nm (i + 1)), to1, p1, lv1) := e2
    obtain ⟨nu2, to2, p2, lv2, q1, q2, q3, q4, q5⟩ := ih (i + 1) f1 f2 nu1 to1 p1 lv1 (by omega) (fun i' k1 k2 c hc' => by
      have hmono : plc nm (i + 1) ≤ plc nm i' := by
        have := plc_mono (nm := nm) (i' - (i + 1)) (i + 1)
        rw [show i + 1 + (i' - (i + 1)) = i' from by omega] at this
        exact this
      rw [e4 _ (by omega)]
      exact h1 i' (by omega) k2 c hc') e3
    refine ⟨nu2, to2, p2, lv2, ?_, ?_, q3, ?_, ?_⟩
    · rw [show k + 1 + 1 + f1 = (k + 1 + f1) + 1 from by omega, lp_PQ_blur_6, if_neg hlt, e1', nI_1]
      exact q1
    · rw [show k + 1 + 1 + f2 = (k + 1 + f2) + 1 from by omega, lp_Mo_run_113, if_neg hlt, e2', nI_1]
      exact q2
    · rw [show k + 1 + 1 + f1 = (k + 1 + f1) + 1 from by omega, oklp_PQ_blur_6, if_neg hlt, e1', nI_1]
      exact ⟨e5, q4⟩
    · rw [show k + 1 + 1 + f2 = (k + 1 + f2) + 1 from by omega, oklp_Mo_run_113, if_neg hlt, e2', nI_1]
      exact ⟨e6, q5⟩
end WORK2
/-! the cells used are taken away -/
theorem tape_lp {N c : Nat} (hN : N ≤ 3000) (hc : c ≤ N) {u2 u4 w : Int32} {sp to p lv : Nat → Int32} : ∀ (m t b : Nat) (g : Nat → Int32), t + m = N - c → ∃ g' : Nat → Int32, lp_Mo_run_226 (nI N) (m + 1 + b) u2 (nI c) u4 (nI (c + t)) g w sp to p lv = (w, nI (N - c), w, g', sp, to, p, lv) ∧ (∀ j, j < N - c → g' j = if t ≤ j then g (j + c) else g j) ∧ oklp_Mo_run_226 (nI N) (m + 1 + b) u2 (nI c) u4 (nI (c + t)) g w sp to p lv := by
  intro m
  induction m with
  | zero =>
    intro t b g ht
    have hle : nI N ≤ nI (c + t) := nI_le (by omega) (by omega)
    refine ⟨g, ?_, fun j hj => by rw [if_neg (by omega)], ?_⟩
    · rw [show 0 + 1 + b = b + 1 from by omega, lp_Mo_run_226, if_pos hle, pk_sub hc]
    · rw [show 0 + 1 + b = b + 1 from by omega, oklp_Mo_run_226, if_pos hle]
      trivial
  | succ m ih =>
    intro t b g ht
    have hlt : ¬ nI N ≤ nI (c + t) := nI_ge (by omega) (by omega)
    have hsb : nI (c + t) - nI c = nI t := by
      rw [pk_sub (by omega)]
      congr 1
      omega
    obtain ⟨g1, q1, q2, q3⟩ := ih (t + 1) b (upd g t (g (c + t))) (by omega)
    refine ⟨g1, ?_, fun j hj => ?_, ?_⟩
    · rw [show m + 1 + 1 + b = (m + 1 + b) + 1 from by omega, lp_Mo_run_226, if_neg hlt, hsb, nI_clamp (by omega), nI_clamp (by omega), nI_1]
      exact q1
    · rw [q2 j hj]
      by_cases d : t + 1 ≤ j
      · rw [if_pos d, if_pos (by omega), pk_un (by omega)]
      · rw [if_neg d]
        by_cases f : j = t
        · subst f
          rw [pk_us, if_pos (Nat.le_refl _), Nat.add_comm]
        · rw [pk_un f, if_neg (by omega)]
    · rw [show m + 1 + 1 + b = (m + 1 + b) + 1 from by omega, oklp_Mo_run_226, if_neg hlt, hsb, nI_clamp (by omega), nI_clamp (by omega), nI_1]
      exact ⟨vp_in_nI (by omega) (by decide), vp_in_nI (by omega) (by decide), q3⟩
theorem tape_rm {N c : Nat} (hN : N ≤ 3000) (hc : c ≤ N) (f : Nat → Int32) : s_Tape_remove f (nI N) (nI c) = (nI (N - c), va_cpy f f c 0 (N - c)) := by
  unfold s_Tape_remove
  rw [if_neg (nI_pos (by omega)), if_pos (nI_le hc (by omega)), pk_sub hc, nI_clamp (by omega), nI_clamp (by omega)]
  rfl
