/-! question, wants -/
section QW
variable {S W : Nat → Int32} {Q : Nat → Nat → Int32} {nl : Nat} {C aS aC aL aH aB aT aG aE : Nat → Int32} {i : Nat}
/-- how many numbers, and how high the top -/
theorem qu_num (R : QuR S W Q nl C aS aC aL aH aB aT aG aE i) (hi : i < 12) : ∃ m p : Nat, 1 ≤ m ∧ m ≤ 20 ∧ p ≤ 30 ∧ s_Qu_numbers (Q i 0) (Q i 2) (Q i 3) = nI m ∧ s_Mo_numbersOf aS aL aH (nI i) = nI m ∧ aT i = nI p ∧ (¬ aS i = 2 → m = 1) ∧ (aS i = 2 → (aH i).toInt = (aL i).toInt + m - 1) := by
  obtain ⟨q0, q1, q2, q3, q4, q5, -, -, ⟨p, hp, ep⟩, sk, -⟩ := R
  unfold s_Qu_numbers s_Mo_numbersOf
  rw [nI_clamp (show i < 2 ^ 31 by omega), q0, q2, q3]
  by_cases c : aS i = 2
  · rw [if_pos c]
    rcases sk with s | ⟨s, -⟩ | ⟨-, w, hw, ew⟩
    · rw [s] at c
      exact absurd c (by decide)
    · rw [s] at c
      exact absurd c (by decide)
    · have e1 : aH i - aL i = nI w := by
        apply Int32.toInt_inj.mp
        rw [Int32.toInt_sub, ew, nI_toInt (by omega), show (aL i).toInt + (w : Int) - (aL i).toInt = (w : Int) from by omega, Int.bmod_eq_of_le (by omega) (by omega)]
      rw [e1, nI_1]
      exact ⟨w + 1, p, by omega, by omega, hp, rfl, rfl, ep, fun z => absurd c z, fun _ => by omega⟩
  · rw [if_neg c]
    exact ⟨1, p, by omega, by omega, hp, rfl, rfl, ep, fun _ => rfl, fun z => absurd z c⟩
theorem qu_part (R : QuR S W Q nl C aS aC aL aH aB aT aG aE i) (hi : i < 12) {x : Int32} (hx : x = 0 ∨ x = 1 ∨ x = 2 ∨ x = 3 ∨ x = 4) : s_Qu_part (Q i 0) (Q i 2) (Q i 3) (Q i 4) (Q i 5) x = s_Mo_aspect aS aL aH aB aT (nI i) x := by
  obtain ⟨m, p, -, -, -, e1, e2, -⟩ := qu_num R hi
  obtain ⟨q0, q1, q2, q3, q4, q5, -, ⟨b, hb1, hb2, eb⟩, -⟩ := R
  have hu : s_Qu_units (Q i 0) (Q i 3) (Q i 4) = s_Mo_unitsOf aS aH aB (nI i) := by
    unfold s_Qu_units s_Mo_unitsOf
    rw [nI_clamp (show i < 2 ^ 31 by omega), q0, q3, q4, eb, if_neg (nltR (N := 1) (b := 1) rfl hb1 (by omega))]
  unfold s_Qu_part s_Mo_aspect
  rw [hu, e1, e2, nI_clamp (show i < 2 ^ 31 by omega), q0, q5]
  rcases hx with rfl | rfl | rfl | rfl | rfl <;> rfl
theorem r_question {ls le lb lE : Nat → Int32} {nq nr : Nat} {b x z : Int32} (h0 : b = 0 → nr = 0) (h1 : ¬ b = 0 → nr = nq ∧ ScrR S W Q ls le nq nl C lb lE aS aC aL aH aB aT aG aE) (hr : nr ≤ 12) : s_PQ_question Q (nI nq) b x z = s_Mo_question (nI nr) aS aL aH aB aT x z := by
  unfold s_PQ_question s_Mo_question
  rw [in_m1 (by omega)]
  dsimp only
  by_cases c : b = 0
  · rw [if_pos c, h0 c]
    by_cases d : x < 0
    · rw [if_pos d, if_pos rfl]
    · rw [if_neg d, if_pos (show nI 0 ≤ x by rw [Int32.le_iff_toInt_le]; have := ly_lo d; rw [show (nI 0).toInt = 0 from rfl]; omega), if_pos rfl]
  · rw [if_neg c]
    obtain ⟨rfl, R⟩ := h1 c
    by_cases d : x < 0
    · rw [if_pos d, if_pos d, if_pos rfl]
    · rw [if_neg d, if_neg d]
      obtain ⟨j, hj, rfl⟩ := nI_of d
      by_cases f : j < nr
      · rw [if_pos (nI_lt f (by omega)), if_neg (nI_ge f (by omega)), if_neg (by decide), sqj_nI (by omega)]
        have hQ := R.qs j f
        by_cases z0 : z < 0
        · have e : s_Mo_in z 0 4 = 0 := if_pos z0
          rw [e, if_pos rfl]
          unfold s_Qu_part
          have hz := z0
          rw [Int32.lt_iff_toInt_lt, i0] at hz
          rw [if_neg (fun q => by rw [q] at hz; exact absurd hz (by decide)), if_neg (fun q => by rw [q] at hz; exact absurd hz (by decide)), if_neg (fun q => by rw [q] at hz; exact absurd hz (by decide)), if_neg (fun q => by rw [q] at hz; exact absurd hz (by decide)), if_neg (fun q => by rw [q] at hz; exact absurd hz (by decide))]
        · obtain ⟨y, hy, rfl⟩ := nI_of z0
          by_cases y5 : y < 5
          · have e : s_Mo_in (nI y) 0 4 = 1 := by
              unfold s_Mo_in
              rw [if_neg z0, if_neg (nltL (N := 4) (a := 4) (b := y) rfl (by omega) (by decide))]
            rw [e, if_neg (by decide)]
            refine qu_part hQ (by omega) ?_
            have h5 : y = 0 ∨ y = 1 ∨ y = 2 ∨ y = 3 ∨ y = 4 := by omega
            rcases h5 with rfl | rfl | rfl | rfl | rfl
            · exact Or.inl rfl
            · exact Or.inr (Or.inl rfl)
            · exact Or.inr (Or.inr (Or.inl rfl))
            · exact Or.inr (Or.inr (Or.inr (Or.inl rfl)))
            · exact Or.inr (Or.inr (Or.inr (Or.inr rfl)))
          · have e : s_Mo_in (nI y) 0 4 = 0 := by
              unfold s_Mo_in
              rw [if_neg z0, if_pos (ltL (N := 4) (a := 4) rfl (by omega) hy)]
            rw [e, if_pos rfl]
            unfold s_Qu_part
            rw [if_neg (neR (N := 0) (j := 0) rfl hy (by decide) (by omega)), if_neg (neR (N := 1) (j := 1) rfl hy (by decide) (by omega)), if_neg (neR (N := 2) (j := 2) rfl hy (by decide) (by omega)), if_neg (neR (N := 3) (j := 3) rfl hy (by decide) (by omega)), if_neg (neR (N := 4) (j := 4) rfl hy (by decide) (by omega))]
      · rw [if_neg (nI_nlt (by omega) hj), if_pos (nI_le (by omega) hj), if_pos rfl]
theorem all_lp {nq : Nat} (hq : nq ≤ 12) {x y : Int32} (hxy : (x = 0 ∧ y = 1) ∨ (x = 1 ∧ y = 2) ∨ (x = 2 ∧ y = 4)) (R : ∀ i, i < nq → QuR S W Q nl C aS aC aL aH aB aT aG aE i) : ∀ (k i b c : Nat) (a : Int32), i + k = nq → lp_Scr_all_4 Q (nI nq) y (k + 1 + b) a (nI i) = lp_Mo_wanted_4 (nI nq) aS aL aH aB aT x (k + 1 + c) a (nI i) ∧ oklp_Scr_all_4 Q (nI nq) y (k + 1 + b) a (nI i) := by
  intro k
  induction k with
  | zero =>
    intro i b c a h
    have hle : nI nq ≤ nI i := nI_le (by omega) (by omega)
    rw [show 0 + 1 + b = b + 1 from by omega, show 0 + 1 + c = c + 1 from by omega, lp_Scr_all_4, lp_Mo_wanted_4, oklp_Scr_all_4, if_pos hle, if_pos hle, if_pos hle]
    exact ⟨rfl, trivial⟩
  | succ k ih =>
    intro i b c a h
    have hlt : ¬ nI nq ≤ nI i := nI_ge (by omega) (by omega)
    have hp := qu_part (R i (by omega)) (by omega) (x := y) (by rcases hxy with ⟨-, rfl⟩ | ⟨-, rfl⟩ | ⟨-, rfl⟩ <;> decide)
    obtain ⟨i1, i2⟩ := ih (i + 1) b c (a + s_Mo_aspect aS aL aH aB aT (nI i) y) (by omega)
    rw [show k + 1 + 1 + b = (k + 1 + b) + 1 from by omega, show k + 1 + 1 + c = (k + 1 + c) + 1 from by omega, lp_Scr_all_4, lp_Mo_wanted_4, oklp_Scr_all_4, if_neg hlt, if_neg hlt, if_neg hlt]
    dsimp only
    rw [sqj_nI (by omega), hp, nI_1]
    rcases hxy with ⟨rfl, rfl⟩ | ⟨rfl, rfl⟩ | ⟨rfl, rfl⟩
    · rw [if_pos rfl]
      exact ⟨i1, i2⟩
    · rw [if_neg (by decide), if_pos rfl]
      exact ⟨i1, i2⟩
    · rw [if_neg (by decide), if_neg (by decide)]
      exact ⟨i1, i2⟩
theorem all_eq {nq : Nat} (hq : nq ≤ 12) {x y : Int32} (hxy : (x = 0 ∧ y = 1) ∨ (x = 1 ∧ y = 2) ∨ (x = 2 ∧ y = 4)) (R : ∀ i, i < nq → QuR S W Q nl C aS aC aL aH aB aT aG aE i) : lp_Scr_all_4 Q (nI nq) y 13 (0 : Int32) (0 : Int32) = lp_Mo_wanted_4 (nI nq) aS aL aH aB aT x ((((nI nq).toInt - (0 : Int32).toInt).toNat) + 1) (0 : Int32) (0 : Int32) ∧ ok_Scr_all Q (nI nq) y := by
  obtain ⟨h1, h2⟩ := all_lp hq hxy R nq 0 (12 - nq) 0 0 (by omega)
  rw [show nq + 1 + (12 - nq) = 13 from by omega] at h1 h2
  have e : ((nI nq).toInt - (0 : Int32).toInt).toNat + 1 = nq + 1 + 0 := by
    rw [nI_toInt (by omega), i0]
    omega
  rw [e]
  exact ⟨h1, h2⟩
theorem r_wants {ls le lb lE : Nat → Int32} {nq nr : Nat} {b x : Int32} (h1 : ¬ b = 0 → nr = nq ∧ ScrR S W Q ls le nq nl C lb lE aS aC aL aH aB aT aG aE) : ok_PQ_wants Q (nI nq) b x ∧ s_PQ_wants Q (nI nq) b x = s_Mo_wants b (nI nr) aS aL aH aB aT x := by
  unfold ok_PQ_wants s_PQ_wants s_Mo_wants s_Mo_in
  dsimp only
  by_cases c : x < 0
  · rw [if_pos c, if_pos c, if_pos c, if_pos rfl]
    exact ⟨trivial, rfl⟩
  · rw [if_neg c, if_neg c, if_neg c]
    by_cases d : x ≤ 2
    · have d' : ¬ (2 : Int32) < x := by
        rw [Int32.le_iff_toInt_le] at d
        rw [Int32.lt_iff_toInt_lt]
        omega
      rw [if_pos d, if_pos d, if_neg d', if10]
      by_cases f : b = 0
      · rw [if_pos f, if_pos f, if_pos f]
        exact ⟨trivial, rfl⟩
      · rw [if_neg f, if_neg f, if_neg f]
        obtain ⟨rfl, R⟩ := h1 f
        obtain ⟨y, hy, rfl⟩ := nI_of c
        have hy2 := (nI_leI (b := 2) hy (by decide)).mp d
        have h3 : y = 0 ∨ y = 1 ∨ y = 2 := by omega
        rcases h3 with rfl | rfl | rfl
        · obtain ⟨e1, e2⟩ := all_eq (x := 0) (y := 1) R.nq12 (Or.inl ⟨rfl, rfl⟩) R.qs
          rw [if_pos (show nI 0 = 0 from rfl), if_pos (show nI 0 = 0 from rfl)]
          exact ⟨⟨e2, trivial⟩, e1⟩
        · obtain ⟨e1, e2⟩ := all_eq (x := 1) (y := 2) R.nq12 (Or.inr (Or.inl ⟨rfl, rfl⟩)) R.qs
          rw [if_neg (show ¬ nI 1 = 0 by decide), if_pos (show nI 1 = 1 from rfl), if_neg (show ¬ nI 1 = 0 by decide), if_pos (show nI 1 = 1 from rfl)]
          exact ⟨⟨e2, trivial⟩, e1⟩
        · obtain ⟨e1, e2⟩ := all_eq (x := 2) (y := 4) R.nq12 (Or.inr (Or.inr ⟨rfl, rfl⟩)) R.qs
          rw [if_neg (show ¬ nI 2 = 0 by decide), if_neg (show ¬ nI 2 = 1 by decide), if_neg (show ¬ nI 2 = 0 by decide), if_neg (show ¬ nI 2 = 1 by decide)]
          exact ⟨⟨e2, trivial⟩, e1⟩
    · have d' : (2 : Int32) < x := by
        rw [Int32.le_iff_toInt_le] at d
        rw [Int32.lt_iff_toInt_lt]
        omega
      rw [if_neg d, if_neg d, if_pos d', if_pos rfl]
      exact ⟨trivial, rfl⟩
end QW
