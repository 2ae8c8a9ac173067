/-! the numbers of all questions -/
/-- where the numbers of question i begin -/
def plc (nm : Nat → Nat) : Nat → Nat
  | 0 => 0
  | i + 1 => plc nm i + nm i
theorem plc_le {nm : Nat → Nat} {nq : Nat} (h : ∀ i, i < nq → nm i ≤ 20) : ∀ i, i ≤ nq → plc nm i ≤ 20 * i := by
  intro i
  induction i with
  | zero => intro _; exact Nat.zero_le _
  | succ i ih =>
    intro hi
    have h1 := ih (by omega)
    have h2 := h i (by omega)
    show plc nm i + nm i ≤ 20 * (i + 1)
    omega
theorem plc_mono {nm : Nat → Nat} : ∀ k i, plc nm i ≤ plc nm (i + k) := by
  intro k
  induction k with
  | zero => intro i; exact Nat.le_refl _
  | succ k ih =>
    intro i
    have := ih i
    show plc nm i ≤ plc nm (i + k) + nm (i + k)
    omega
/-- what a row adds to bin b of a question -/
def ctr (y s lo hi v : Int32) (b : Nat) : Int32 := if y = 0 then 0 else if s = 0 then 1 else if s = 2 then (if v = lo + nI b then 1 else 0) else (if 0 ≤ v then (if v ≤ hi then v else hi) else 0)
theorem near_0 {v hi : Int32} (h : (0 : Int32) ≤ hi) : s_PQ_nearest v 0 hi = if 0 ≤ v then (if v ≤ hi then v else hi) else 0 := by
  unfold s_PQ_nearest
  rw [Int32.le_iff_toInt_le, i0] at h
  by_cases a : v < hi
  · have a2 := a
    rw [Int32.lt_iff_toInt_lt] at a2
    rw [if_pos a]
    by_cases c : 0 ≤ v
    · have c2 := c
      rw [Int32.le_iff_toInt_le, i0] at c2
      rw [if_pos c, if_pos (show v ≤ hi by rw [Int32.le_iff_toInt_le]; omega)]
      by_cases d : (0 : Int32) < v
      · rw [if_pos d]
      · rw [if_neg d]
        rw [Int32.lt_iff_toInt_lt, i0] at d
        exact Int32.toInt_inj.mp (by rw [i0]; omega)
    · have c2 := c
      rw [Int32.le_iff_toInt_le, i0] at c2
      rw [if_neg c, if_neg (by rw [Int32.lt_iff_toInt_lt, i0]; omega)]
  · have a2 := a
    rw [Int32.lt_iff_toInt_lt] at a2
    rw [if_neg a, if_pos (show (0 : Int32) ≤ v by rw [Int32.le_iff_toInt_le, i0]; omega)]
    have e : (if (0 : Int32) < hi then hi else 0) = hi := by
      by_cases d : (0 : Int32) < hi
      · rw [if_pos d]
      · rw [if_neg d]
        rw [Int32.lt_iff_toInt_lt, i0] at d
        exact Int32.toInt_inj.mp (by rw [i0]; omega)
    rw [e]
    by_cases f : v ≤ hi
    · rw [if_pos f]
      rw [Int32.le_iff_toInt_le] at f
      exact Int32.toInt_inj.mp (by omega)
    · rw [if_neg f]
section ENT
variable {S W : Nat → Int32} {Q : Nat → Nat → Int32} {nl : Nat} {C aS aC aL aH aB aT aG aE : Nat → Int32} {i : Nat}
theorem enter_eq (R : QuR S W Q nl C aS aC aL aH aB aT aG aE i) {m p : Nat} {v : Int32} {nu : Nat → Int32} (hm1 : 1 ≤ m) (hm : m ≤ 20) (hp : p + m ≤ 240) (h2 : ¬ aS i = 2 → m = 1) (h3 : aS i = 2 → (aH i).toInt = (aL i).toInt + m - 1) :
    (∀ b, b < m → s_Qu_enter (Q i 0) (Q i 2) (Q i 3) nu v (nI p) (p + b) = nu (p + b) + ctr 1 (aS i) (aL i) (aH i) v b) ∧ (∀ j, j < p ∨ p + m ≤ j → s_Qu_enter (Q i 0) (Q i 2) (Q i 3) nu v (nI p) j = nu j) := by
  obtain ⟨q0, q1, q2, q3, q4, q5, -, -, -, sk, -⟩ := R
  have hlo : ¬ nI p < 0 := nI_pos (by omega)
  have hhi : ¬ (240 : Int32) ≤ nI p := geL (N := 240) (b := 240) rfl (by omega) (by decide)
  unfold s_Qu_enter ctr
  rw [q0, q2, q3]
  rcases sk with s | ⟨s, l0, h, hh1, hh2, eh⟩ | ⟨s, w, hw, ew⟩
  · have hm0 := h2 (by rw [s]; decide)
    subst hm0
    rw [s, if_neg (by decide), if_neg (by decide), if_neg hlo, if_neg hhi, nI_clamp (by omega)]
    refine ⟨fun b hb => ?_, fun j hj => pk_un (by omega)⟩
    have : b = 0 := by omega
    subst this
    rw [Nat.add_zero, pk_us, if_neg (by decide), if_pos rfl]
  · have hm0 := h2 (by rw [s]; decide)
    subst hm0
    rw [s, if_pos rfl, if_neg hlo, if_neg hhi, nI_clamp (by omega), l0, near_0 (by rw [eh]; exact nI_pos' (by omega))]
    refine ⟨fun b hb => ?_, fun j hj => pk_un (by omega)⟩
    have : b = 0 := by omega
    subst this
    rw [Nat.add_zero, pk_us, if10, if10, if_neg (show ¬ (1 : Int32) = 2 by decide)]
  · have hm9 := h3 s
    have hmw : m = w + 1 := by omega
    rw [s, if_neg (by decide), if_pos rfl]
    by_cases a : v < aL i
    · rw [if_pos a]
      refine ⟨fun b hb => ?_, fun j hj => rfl⟩
      rw [if_neg (by decide), if_neg (by decide), if_pos rfl, if_neg, Int32.add_zero]
      intro z
      rw [Int32.lt_iff_toInt_lt, z, Int32.toInt_add, nI_toInt (by omega)] at a
      have k1 := Int32.le_toInt (aL i)
      have k2 := Int32.toInt_lt (aH i)
      rw [Int.bmod_eq_of_le (by omega) (by omega)] at a
      omega
    · rw [if_neg a]
      rw [Int32.lt_iff_toInt_lt] at a
      have k1 := Int32.le_toInt (aL i)
      have k2 := Int32.toInt_lt (aH i)
      by_cases c : v ≤ aH i
      · rw [if_pos c]
        rw [Int32.le_iff_toInt_le] at c
        obtain ⟨b0, hb0⟩ : ∃ b0 : Nat, (b0 : Int) = v.toInt - (aL i).toInt := ⟨(v.toInt - (aL i).toInt).toNat, by omega⟩
        have ev : v = aL i + nI b0 := by
          apply Int32.toInt_inj.mp
          rw [Int32.toInt_add, nI_toInt (by omega), Int.bmod_eq_of_le (by omega) (by omega)]
          omega
        have ei : nI p + v - aL i = nI (p + b0) := by
          rw [ev, ← nI_add]
          apply Int32.toInt_inj.mp
          simp only [Int32.toInt_sub, Int32.toInt_add, Int.bmod_add_bmod, Int.add_bmod_bmod, Int.bmod_sub_bmod, Int.sub_bmod_bmod]
          congr 1
          omega
        rw [ei, if_neg (nI_pos (by omega)), if_neg (geL (N := 240) (b := 240) rfl (by omega) (by decide)), nI_clamp (by omega)]
        refine ⟨fun b hb => ?_, fun j hj => pk_un (by omega)⟩
        rw [if_neg (by decide), if_neg (by decide), if_pos rfl]
        by_cases d : b = b0
        · rw [d, pk_us, if_pos ev]
        · rw [pk_un (by omega), if_neg, Int32.add_zero]
          intro z
          have := congrArg Int32.toInt (ev.symm.trans z)
          rw [Int32.toInt_add, Int32.toInt_add, nI_toInt (by omega), nI_toInt (by omega), Int.bmod_eq_of_le (by omega) (by omega), Int.bmod_eq_of_le (by omega) (by omega)] at this
          omega
      · rw [if_neg c]
        rw [Int32.le_iff_toInt_le] at c
        refine ⟨fun b hb => ?_, fun j hj => rfl⟩
        rw [if_neg (by decide), if_neg (by decide), if_pos rfl, if_neg, Int32.add_zero]
        intro z
        rw [z, Int32.toInt_add, nI_toInt (by omega), Int.bmod_eq_of_le (by omega) (by omega)] at c
        omega
end ENT
section WORK
variable {S W : Nat → Int32} {Q : Nat → Nat → Int32} {ls le : Nat → Int32} {nq nl : Nat} {C lb lE aS aC aL aH aB aT aG aE : Nat → Int32} {tb T : Nat → Int32} {n : Nat}
/-- the numbers, the tops and the columns of all questions -/
def NmR (Q : Nat → Nat → Int32) (nq : Nat) (aS aC aL aH aB aT : Nat → Int32) (nm tp cl by_ : Nat → Nat) : Prop := ∀ i, i < nq → 1 ≤ nm i ∧ nm i ≤ 20 ∧ tp i ≤ 30 ∧ s_Qu_numbers (Q i 0) (Q i 2) (Q i 3) = nI (nm i) ∧ s_Mo_numbersOf aS aL aH (nI i) = nI (nm i) ∧ aT i = nI (tp i) ∧ Q i 5 = nI (tp i) ∧ (¬ aS i = 2 → nm i = 1) ∧ (aS i = 2 → (aH i).toInt = (aL i).toInt + nm i - 1) ∧ cl i < 6 ∧ aC i = nI (cl i) ∧ Q i 1 = nI (cl i) ∧ 1 ≤ by_ i ∧ by_ i ≤ 1000 ∧ aB i = nI (by_ i) ∧ Q i 4 = nI (by_ i)
theorem nm_ex (R : ScrR S W Q ls le nq nl C lb lE aS aC aL aH aB aT aG aE) : ∃ nm tp cl by_ : Nat → Nat, NmR Q nq aS aC aL aH aB aT nm tp cl by_ := by
  have h : ∀ i, ∃ m p c b : Nat, i < nq → 1 ≤ m ∧ m ≤ 20 ∧ p ≤ 30 ∧ s_Qu_numbers (Q i 0) (Q i 2) (Q i 3) = nI m ∧ s_Mo_numbersOf aS aL aH (nI i) = nI m ∧ aT i = nI p ∧ Q i 5 = nI p ∧ (¬ aS i = 2 → m = 1) ∧ (aS i = 2 → (aH i).toInt = (aL i).toInt + m - 1) ∧ c < 6 ∧ aC i = nI c ∧ Q i 1 = nI c ∧ 1 ≤ b ∧ b ≤ 1000 ∧ aB i = nI b ∧ Q i 4 = nI b := by
    intro i
    by_cases hi : i < nq
    · have hR := R.qs i hi
      obtain ⟨m, p, a1, a2, a3, a4, a5, a6, a7, a8⟩ := qu_num hR (by have := R.nq12; omega)
      obtain ⟨q0, q1, q2, q3, q4, q5, ⟨c, c1, c2⟩, ⟨b, b1, b2, b3⟩, -⟩ := hR
      exact ⟨m, p, c, b, fun _ => ⟨a1, a2, a3, a4, a5, a6, q5.trans a6, a7, a8, c1, c2, q1.trans c2, b1, b2, b3, q4.trans b3⟩⟩
    · exact ⟨0, 0, 0, 0, fun z => absurd z hi⟩
  exact ⟨fun i => Classical.choose (h i), fun i => Classical.choose (Classical.choose_spec (h i)), fun i => Classical.choose (Classical.choose_spec (Classical.choose_spec (h i))), fun i => Classical.choose (Classical.choose_spec (Classical.choose_spec (Classical.choose_spec (h i)))), fun i hi => Classical.choose_spec (Classical.choose_spec (Classical.choose_spec (Classical.choose_spec (h i)))) hi⟩
/-- all that a row says -/
def RowP (S W : Nat → Int32) (Q : Nat → Nat → Int32) (ls le : Nat → Int32) (nq nl : Nat) (C lb lE aG aE tb T : Nat → Int32) (r : Nat) (X Y : Nat → Int32) : Prop := (∀ i, i < nq → Y i = 0 ∨ Y i = 1) ∧
    (∀ (hg : Int32) (st ho : Nat → Int32), ∃ (hg' : Int32) (st' ho' : Nat → Int32), lp_Scr_settleLets_2 S W ls le (nI nl) tb (nI r) 11 (0 : Int32) hg st ho = (hg', st', ho') ∧ (∀ l, l < nl → ho' l = X l) ∧ ok_Scr_settleLets S W st hg ho ls le (nI nl) tb (nI r)) ∧
    (∀ i, i < nq → ∀ (ho : Nat → Int32), (∀ l, l < nl → ho l = X l) → ∀ (st : Nat → Int32) (hg : Int32), ∃ (hg' : Int32) (st' : Nat → Int32), s_Cond_hold S W st hg ho tb (Q i 6) (Q i 7) (nI r) = (Y i, hg', st')) ∧
    (∀ i, i < nq → ∀ p lv : Nat → Int32, ∃ p' lv' : Nat → Int32, s_Mo_holds T (nI nl) C lb lE aG aE p lv (nI i) (nI r) = (Y i, p', lv') ∧ ok_Mo_holds T (nI nl) C lb lE aG aE p lv (nI i) (nI r))
theorem rows_ex (R : ScrR S W Q ls le nq nl C lb lE aS aC aL aH aB aT aG aE) (hn : n ≤ 60) (hT : ∀ j, j < 6 * n → tb j = T j) : ∃ X Y : Nat → Nat → Int32, ∀ r, r < n → RowP S W Q ls le nq nl C lb lE aG aE tb T r (X r) (Y r) := by
  have h : ∀ r, ∃ X Y : Nat → Int32, r < n → RowP S W Q ls le nq nl C lb lE aG aE tb T r X Y := by
    intro r
    by_cases hr : r < n
    · obtain ⟨X, Y, h⟩ := row_val R hr hn hT
      exact ⟨X, Y, fun _ => h⟩
    · exact ⟨fun _ => 0, fun _ => 0, fun z => absurd z hr⟩
  exact ⟨fun r => Classical.choose (h r), fun r => Classical.choose (Classical.choose_spec (h r)), fun r hr => Classical.choose_spec (Classical.choose_spec (h r)) hr⟩
/-- the sum over the first rows -/
def accN (y : Nat → Int32) (s lo hi : Int32) (v : Nat → Int32) (b : Nat) : Nat → Int32
  | 0 => 0
  | r + 1 => accN y s lo hi v b r + ctr (y r) s lo hi (v r) b
theorem ent_lp (R : ScrR S W Q ls le nq nl C lb lE aS aC aL aH aB aT aG aE) {nm tp cl by_ : Nat → Nat} (M : NmR Q nq aS aC aL aH aB aT nm tp cl by_) {r : Nat} (hr : r < n) (hn : n ≤ 60) (hT : ∀ j, j < 6 * n → tb j = T j) {X Y : Nat → Int32} (hR : RowP S W Q ls le nq nl C lb lE aG aE tb T r X Y) {ho : Nat → Int32} (hho : ∀ l, l < nl → ho l = X l) : ∀ (k i b : Nat) (hg : Int32) (st nu : Nat → Int32), i + k = nq →
    ∃ (hg' : Int32) (st' nu' : Nat → Int32), lp_Scr_enterRow_6 S W ho Q (nI nq) tb (nI r) (k + 1 + b) (nI (plc nm i)) (nI i) hg st nu = (hg', st', nu') ∧ (∀ i', i ≤ i' → i' < nq → ∀ b', b' < nm i' → nu' (plc nm i' + b') = nu (plc nm i' + b') + ctr (Y i') (aS i') (aL i') (aH i') (T (6 * r + cl i')) b') ∧ (∀ j, j < plc nm i → nu' j = nu j) ∧ oklp_Scr_enterRow_6 S W ho Q (nI nq) tb (nI r) (k + 1 + b) (nI (plc nm i)) (nI i) hg st nu := by
  have hq12 := R.nq12
  have hpl := plc_le (nm := nm) (nq := nq) (fun i hi => (M i hi).2.1)
  intro k
  induction k with
  | zero =>
    intro i b hg st nu hi
    have hle : nI nq ≤ nI i := nI_le (by omega) (by omega)
    refine ⟨hg, st, nu, ?_, fun i' h1 h2 => absurd h2 (by omega), fun j _ => rfl, ?_⟩
    · rw [show 0 + 1 + b = b + 1 from by omega, lp_Scr_enterRow_6, if_pos hle]
    · rw [show 0 + 1 + b = b + 1 from by omega, oklp_Scr_enterRow_6, if_pos hle]
      trivial
  | succ k ih =>
    intro i b hg st nu hi
    have hlt : ¬ nI nq ≤ nI i := nI_ge (by omega) (by omega)
    obtain ⟨m1, m2, m3, m4, m5, m6, m7, m8, m9, m10, m11, m12, -⟩ := M i (by omega)
    obtain ⟨hg1, st1, e1⟩ := hR.2.2.1 i (by omega) ho hho st hg
    have hp1 := hpl (i + 1) (by omega)
    have hps : plc nm (i + 1) = plc nm i + nm i := rfl
    have hmono : ∀ i', i + 1 ≤ i' → plc nm (i + 1) ≤ plc nm i' := fun i' h => by
      have := plc_mono (nm := nm) (i' - (i + 1)) (i + 1)
      rw [show i + 1 + (i' - (i + 1)) = i' from by omega] at this
      exact this
    have hnx : nI (plc nm i) + nI (nm i) = nI (plc nm (i + 1)) := by rw [nI_add, hps]
    rcases hR.1 i (by omega) with y0 | y1
    · obtain ⟨hg2, st2, nu2, q1, q2, q3, q4⟩ := ih (i + 1) b hg1 st1 nu (by omega)
      refine ⟨hg2, st2, nu2, ?_, fun i' h1 h2 b' hb' => ?_, fun j hj => q3 j (by omega), ?_⟩
      · rw [show k + 1 + 1 + b = (k + 1 + b) + 1 from by omega, lp_Scr_enterRow_6, if_neg hlt, sqj_nI (by omega), e1]
        dsimp only
        rw [if_pos y0, m4, hnx, nI_1]
        exact q1
      · by_cases c : i' = i
        · subst c
          rw [q3 _ (by omega), y0]
          unfold ctr
          rw [if_pos rfl, Int32.add_zero]
        · exact q2 i' (by omega) h2 b' hb'
      · rw [show k + 1 + 1 + b = (k + 1 + b) + 1 from by omega, oklp_Scr_enterRow_6, if_neg hlt, sqj_nI (by omega), e1]
        dsimp only
        rw [if_pos y0, m4, hnx, nI_1]
        exact q4
    · obtain ⟨n1, n2⟩ := enter_eq (R.qs i (by omega)) (m := nm i) (p := plc nm i) (v := T (6 * r + cl i)) (nu := nu) m1 m2 (by omega) m8 m9
      have htab : s_Tab_at tb (nI r) (Q i 1) = T (6 * r + cl i) := by rw [m12, tabAt_nI (by omega) m10, hT _ (by omega)]
      have hy : ¬ Y i = 0 := by rw [y1]; decide
      obtain ⟨hg2, st2, nu2, q1, q2, q3, q4⟩ := ih (i + 1) b hg1 st1 (s_Qu_enter (Q i 0) (Q i 2) (Q i 3) nu (T (6 * r + cl i)) (nI (plc nm i))) (by omega)
      refine ⟨hg2, st2, nu2, ?_, fun i' h1 h2 b' hb' => ?_, fun j hj => ?_, ?_⟩
      · rw [show k + 1 + 1 + b = (k + 1 + b) + 1 from by omega, lp_Scr_enterRow_6, if_neg hlt, sqj_nI (by omega), e1]
        dsimp only
        rw [if_neg hy, htab, m4, hnx, nI_1]
        exact q1
      · by_cases c : i' = i
        · subst c
          rw [q3 _ (by omega), n1 b' hb', y1]
        · rw [q2 i' (by omega) h2 b' hb', n2 _ (Or.inr (by have := hmono i' (by omega); omega))]
      · rw [q3 j (by omega), n2 j (Or.inl hj)]
      · rw [show k + 1 + 1 + b = (k + 1 + b) + 1 from by omega, oklp_Scr_enterRow_6, if_neg hlt, sqj_nI (by omega), e1]
        dsimp only
        rw [if_neg hy, htab, m4, hnx, nI_1]
        exact q4
/-- the reference's number -/
theorem num_lp (R : ScrR S W Q ls le nq nl C lb lE aS aC aL aH aB aT aG aE) {nm tp cl by_ : Nat → Nat} (M : NmR Q nq aS aC aL aH aB aT nm tp cl by_) (hn : n ≤ 60) {X Y : Nat → Nat → Int32} (hR : ∀ r, r < n → RowP S W Q ls le nq nl C lb lE aG aE tb T r (X r) (Y r)) {i b' : Nat} (hi : i < nq) : ∀ (k r b : Nat) (p lv : Nat → Int32), r + k = n →
    ∃ p' lv' : Nat → Int32, lp_Mo_numberOf_5 T (nI n) (nI nl) C lb lE aS aC aL aH aG aE (nI i) (nI b') (k + 1 + b) (accN (fun r => Y r i) (aS i) (aL i) (aH i) (fun r => T (6 * r + cl i)) b' r) (nI r) p lv = (accN (fun r => Y r i) (aS i) (aL i) (aH i) (fun r => T (6 * r + cl i)) b' n, nI n, p', lv') ∧ oklp_Mo_numberOf_5 T (nI n) (nI nl) C lb lE aS aC aL aH aG aE (nI i) (nI b') (k + 1 + b) (accN (fun r => Y r i) (aS i) (aL i) (aH i) (fun r => T (6 * r + cl i)) b' r) (nI r) p lv := by
  have hq12 := R.nq12
  have hin : vp_in (nI i) 12 := vp_in_nI (by omega) (by decide)
  obtain ⟨m1, m2, m3, m4, m5, m6, m7, m8, m9, m10, m11, m12, -⟩ := M i hi
  intro k
  induction k with
  | zero =>
    intro r b p lv hr
    have hr' : r = n := by omega
    subst hr'
    have hle : nI r ≤ nI r := nI_le (Nat.le_refl _) (by omega)
    refine ⟨p, lv, ?_, ?_⟩
    · rw [show 0 + 1 + b = b + 1 from by omega, lp_Mo_numberOf_5, if_pos hle]
    · rw [show 0 + 1 + b = b + 1 from by omega, oklp_Mo_numberOf_5, if_pos hle]
      trivial
  | succ k ih =>
    intro r b p lv hr
    have hlt : ¬ nI n ≤ nI r := nI_ge (by omega) (by omega)
    obtain ⟨p1, lv1, e1, e2⟩ := (hR r (by omega)).2.2.2 i hi p lv
    obtain ⟨p2, lv2, q1, q2⟩ := ih (r + 1) b p1 lv1 (by omega)
    have eix : (6 * nI r + nI (cl i)).toNatClampNeg = 6 * r + cl i := pk_cl (6 * r + cl i) (by rw [mo_6, nI_add])
    have vix : vp_in (6 * nI r + nI (cl i)) 366 := pk_in (6 * r + cl i) 366 (by omega) (by rw [mo_6, nI_add])
    have hacc : accN (fun r => Y r i) (aS i) (aL i) (aH i) (fun r => T (6 * r + cl i)) b' (r + 1) = accN (fun r => Y r i) (aS i) (aL i) (aH i) (fun r => T (6 * r + cl i)) b' r + ctr (Y r i) (aS i) (aL i) (aH i) (T (6 * r + cl i)) b' := rfl
    generalize accN (fun r => Y r i) (aS i) (aL i) (aH i) (fun r => T (6 * r + cl i)) b' r = z at *
    unfold ctr at hacc
    refine ⟨p2, lv2, ?_, ?_⟩
    · rw [show k + 1 + 1 + b = (k + 1 + b) + 1 from by omega, lp_Mo_numberOf_5, if_neg hlt, e1, nI_clamp (show i < 2 ^ 31 by omega), m11, eix, nI_1]
      dsimp only
      rw [hacc] at q1
      by_cases y0 : Y r i = 0
      · rw [if_pos y0, Int32.add_zero] at q1
        rw [if_pos y0]
        exact q1
      · rw [if_neg y0] at q1
        rw [if_neg y0]
        by_cases s0 : aS i = 0
        · rw [if_pos s0] at q1 ⊢
          exact q1
        · rw [if_neg s0] at q1 ⊢
          by_cases s2 : aS i = 2
          · rw [if_pos s2] at q1 ⊢
            by_cases v0 : T (6 * r + cl i) = aL i + nI b'
            · rw [if_pos v0] at q1 ⊢
              exact q1
            · rw [if_neg v0] at q1 ⊢
              exact q1
          · rw [if_neg s2] at q1 ⊢
            by_cases v0 : (0 : Int32) ≤ T (6 * r + cl i)
            · rw [if_pos v0] at q1 ⊢
              by_cases v1 : T (6 * r + cl i) ≤ aH i
              · rw [if_pos v1] at q1 ⊢
                exact q1
              · rw [if_neg v1] at q1 ⊢
                exact q1
            · rw [if_neg v0] at q1 ⊢
              exact q1
    · rw [show k + 1 + 1 + b = (k + 1 + b) + 1 from by omega, oklp_Mo_numberOf_5, if_neg hlt, e1, nI_clamp (show i < 2 ^ 31 by omega), m11, eix, nI_1]
      dsimp only
      rw [hacc] at q2
      by_cases y0 : Y r i = 0
      · rw [if_pos y0, Int32.add_zero] at q2
        rw [if_pos y0]
        exact ⟨e2, q2⟩
      · rw [if_neg y0] at q2
        rw [if_neg y0]
        by_cases s0 : aS i = 0
        · rw [if_pos s0] at q2 ⊢
          exact ⟨e2, hin, vix, hin, q2⟩
        · rw [if_neg s0] at q2 ⊢
          by_cases s2 : aS i = 2
          · rw [if_pos s2] at q2 ⊢
            by_cases v0 : T (6 * r + cl i) = aL i + nI b'
            · rw [if_pos v0] at q2 ⊢
              exact ⟨e2, hin, vix, hin, hin, hin, q2⟩
            · rw [if_neg v0] at q2 ⊢
              exact ⟨e2, hin, vix, hin, hin, hin, q2⟩
          · rw [if_neg s2] at q2 ⊢
            by_cases v0 : (0 : Int32) ≤ T (6 * r + cl i)
            · rw [if_pos v0] at q2 ⊢
              by_cases v1 : T (6 * r + cl i) ≤ aH i
              · rw [if_pos v1] at q2 ⊢
                exact ⟨e2, hin, vix, hin, hin, hin, q2⟩
              · rw [if_neg v1] at q2 ⊢
                exact ⟨e2, hin, vix, hin, hin, hin, hin, q2⟩
            · rw [if_neg v0] at q2 ⊢
              exact ⟨e2, hin, vix, hin, hin, q2⟩
end WORK
