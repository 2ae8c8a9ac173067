/-! a script, and what it says of a row -/
def QuR (S W : Nat → Int32) (Q : Nat → Nat → Int32) (nl : Nat) (C aS aC aL aH aB aT aG aE : Nat → Int32) (i : Nat) : Prop :=
  Q i 0 = aS i ∧ Q i 1 = aC i ∧ Q i 2 = aL i ∧ Q i 3 = aH i ∧ Q i 4 = aB i ∧ Q i 5 = aT i ∧ (∃ c, c < 6 ∧ aC i = nI c) ∧ (∃ b, 1 ≤ b ∧ b ≤ 1000 ∧ aB i = nI b) ∧ (∃ p, p ≤ 30 ∧ aT i = nI p) ∧
  (aS i = 0 ∨ (aS i = 1 ∧ aL i = 0 ∧ ∃ h, 1 ≤ h ∧ h ≤ 1000 ∧ aH i = nI h) ∨ (aS i = 2 ∧ ∃ w : Nat, w < 20 ∧ (aH i).toInt = (aL i).toInt + w)) ∧
  ((Q i 6 = Q i 7 ∧ aE i = -1) ∨ ∃ a b h : Nat, Q i 6 = nI a ∧ Q i 7 = nI b ∧ aG i = nI (2 * a) ∧ aE i = nI (2 * b) ∧ BooD S W C nl a b h ∧ h ≤ 64 ∧ b ≤ 2000)
def ScrR (S W : Nat → Int32) (Q : Nat → Nat → Int32) (ls le : Nat → Int32) (nq nl : Nat) (C lb lE aS aC aL aH aB aT aG aE : Nat → Int32) : Prop := nq ≤ 12 ∧ nl ≤ 10 ∧ (∀ l, l < nl → ∃ a b h : Nat, ls l = nI a ∧ le l = nI b ∧ lb l = nI (2 * a) ∧ lE l = nI (2 * b) ∧ BooD S W C l a b h ∧ h ≤ 64 ∧ b ≤ 2000) ∧ ∀ i, i < nq → QuR S W Q nl C aS aC aL aH aB aT aG aE i
theorem ScrR.nq12 {S W : Nat → Int32} {Q : Nat → Nat → Int32} {ls le : Nat → Int32} {nq nl : Nat} {C lb lE aS aC aL aH aB aT aG aE : Nat → Int32} (h : ScrR S W Q ls le nq nl C lb lE aS aC aL aH aB aT aG aE) : nq ≤ 12 := h.1
theorem ScrR.nl10 {S W : Nat → Int32} {Q : Nat → Nat → Int32} {ls le : Nat → Int32} {nq nl : Nat} {C lb lE aS aC aL aH aB aT aG aE : Nat → Int32} (h : ScrR S W Q ls le nq nl C lb lE aS aC aL aH aB aT aG aE) : nl ≤ 10 := h.2.1
theorem ScrR.lets {S W : Nat → Int32} {Q : Nat → Nat → Int32} {ls le : Nat → Int32} {nq nl : Nat} {C lb lE aS aC aL aH aB aT aG aE : Nat → Int32} (h : ScrR S W Q ls le nq nl C lb lE aS aC aL aH aB aT aG aE) : ∀ l, l < nl → ∃ a b h : Nat, ls l = nI a ∧ le l = nI b ∧ lb l = nI (2 * a) ∧ lE l = nI (2 * b) ∧ BooD S W C l a b h ∧ h ≤ 64 ∧ b ≤ 2000 := h.2.2.1
theorem ScrR.qs {S W : Nat → Int32} {Q : Nat → Nat → Int32} {ls le : Nat → Int32} {nq nl : Nat} {C lb lE aS aC aL aH aB aT aG aE : Nat → Int32} (h : ScrR S W Q ls le nq nl C lb lE aS aC aL aH aB aT aG aE) : ∀ i, i < nq → QuR S W Q nl C aS aC aL aH aB aT aG aE i := h.2.2.2
theorem sqj_nI {i : Nat} (h : i < 12) : s_qj (nI i) = i := by
  have : ∀ i, i < 12 → s_qj (nI i) = i := by decide
  exact this i h
section ROW
variable {S W : Nat → Int32} {Q : Nat → Nat → Int32} {ls le : Nat → Int32} {nq nl : Nat} {C lb lE aS aC aL aH aB aT aG aE : Nat → Int32} {tb T : Nat → Int32} {n r : Nat}
/-- let l comes to v, given the lets before it -/
def LetE (S W ls le C lb lE tb T : Nat → Int32) (r : Nat) (X : Nat → Int32) (l : Nat) (v : Int32) : Prop := ∀ ho lv : Nat → Int32, LvR X ho lv l → (∀ (st : Nat → Int32) (hg : Int32), ∃ (hg' : Int32) (st' : Nat → Int32), s_Cond_hold S W st hg ho tb (ls l) (le l) (nI r) = (v, hg', st')) ∧ (∀ p : Nat → Int32, ∃ p' : Nat → Int32, lp_Mo_work_6 T C lv (lE l) (nI r) 2001 (0 : Int32) (lb l) p = (v, p') ∧ ok_Mo_work T C p lv (lb l) (lE l) (nI r))
theorem lets_X (R : ScrR S W Q ls le nq nl C lb lE aS aC aL aH aB aT aG aE) (hr : r < n) (hn : n ≤ 60) (hT : ∀ j, j < 6 * n → tb j = T j) : ∀ m, m ≤ nl → ∃ X : Nat → Int32, ∀ l, l < m → (X l = 0 ∨ X l = 1) ∧ LetE S W ls le C lb lE tb T r X l (X l) := by
  intro m
  induction m with
  | zero => intro _; exact ⟨fun _ => 0, fun l h => absurd h (Nat.not_lt_zero _)⟩
  | succ m ih =>
    intro hm
    obtain ⟨X, hX⟩ := ih (by omega)
    have hl10 := R.nl10
    obtain ⟨a, b, h, e1, e2, e3, e4, e5, e6, e7⟩ := R.lets m (by omega)
    obtain ⟨x, hx, ev⟩ := hold_eq (tb := tb) (T := T) (X := X) hr hn hT (by omega) (fun l hl => (hX l hl).1) e5 e6 e7
    have mv : ∀ {ho lv : Nat → Int32} {l : Nat}, l ≤ m → LvR (upd X m x) ho lv l → LvR X ho lv l := fun hl h j hj => by
      have := h j hj
      rw [pk_un (by omega)] at this
      exact this
    refine ⟨upd X m x, fun l hl => ?_⟩
    by_cases c : l = m
    · subst c
      rw [pk_us]
      refine ⟨hx, fun ho lv hv => ?_⟩
      rw [e1, e2, e3, e4]
      exact ev ho lv (mv (Nat.le_refl _) hv)
    · rw [pk_un c]
      obtain ⟨k1, k2⟩ := hX l (by omega)
      exact ⟨k1, fun ho lv hv => k2 ho lv (mv (by omega) hv)⟩
theorem nar01 {x : Int32} (h : x = 0 ∨ x = 1) : vp_nar .boolean x = x := by
  rcases h with rfl | rfl <;> decide
theorem if01 {x : Int32} (h : x = 0 ∨ x = 1) : (if x = 0 then (0 : Int32) else 1) = x := by
  rcases h with rfl | rfl <;> decide
theorem settle_lp {X : Nat → Int32} (hl10 : nl ≤ 10) (hX : ∀ l, l < nl → (X l = 0 ∨ X l = 1) ∧ LetE S W ls le C lb lE tb T r X l (X l)) : ∀ (k i b : Nat) (hg : Int32) (st ho : Nat → Int32), i + k = nl → (∀ l, l < i → ho l = X l) → ∃ (hg' : Int32) (st' ho' : Nat → Int32), lp_Scr_settleLets_2 S W ls le (nI nl) tb (nI r) (k + 1 + b) (nI i) hg st ho = (hg', st', ho') ∧ (∀ l, l < nl → ho' l = X l) ∧ oklp_Scr_settleLets_2 S W ls le (nI nl) tb (nI r) (k + 1 + b) (nI i) hg st ho := by
  intro k
  induction k with
  | zero =>
    intro i b hg st ho hi hh
    refine ⟨hg, st, ho, ?_, fun l hl => hh l (by omega), ?_⟩
    · rw [show 0 + 1 + b = b + 1 from by omega, lp_Scr_settleLets_2, if_pos (nI_le (by omega) (by omega))]
    · rw [show 0 + 1 + b = b + 1 from by omega, oklp_Scr_settleLets_2, if_pos (nI_le (by omega) (by omega))]
      trivial
  | succ k ih =>
    intro i b hg st ho hi hh
    obtain ⟨x1, x2⟩ := hX i (by omega)
    obtain ⟨hg1, st1, e1⟩ := (x2 ho X (fun j hj => ⟨rfl, by rw [hh j hj]; exact if01 (hX j (by omega)).1⟩)).1 st hg
    have hs : s_Cond_settle ho (nI i) (X i) = upd ho i (X i) := by
      unfold s_Cond_settle
      rw [if_neg (nI_pos (by omega)), if_neg (geL (N := 10) (b := 10) rfl (by omega) (by decide)), nI_clamp (by omega), nar01 x1]
    obtain ⟨hg2, st2, ho2, q1, q2, q3⟩ := ih (i + 1) b hg1 st1 (upd ho i (X i)) (by omega) (fun l hl => by
      by_cases c : l = i
      · subst c
        rw [pk_us]
      · rw [pk_un c]
        exact hh l (by omega))
    have hlt : ¬ nI nl ≤ nI i := nI_ge (by omega) (by omega)
    have h10 : ¬ (10 : Int32) ≤ nI i := geL (N := 10) (b := 10) rfl (by omega) (by decide)
    have hin : vp_in (nI i) 10 := vp_in_nI (by omega) (by decide)
    refine ⟨hg2, st2, ho2, ?_, q2, ?_⟩
    · rw [show k + 1 + 1 + b = (k + 1 + b) + 1 from by omega, lp_Scr_settleLets_2, if_neg hlt, if_neg h10, if_neg h10, nI_clamp (by omega), e1]
      dsimp only
      rw [hs, nI_1]
      exact q1
    · rw [show k + 1 + 1 + b = (k + 1 + b) + 1 from by omega, oklp_Scr_settleLets_2, if_neg hlt, if_neg h10, if_neg h10, nI_clamp (by omega), e1]
      dsimp only
      rw [hs, nI_1]
      exact ⟨hin, hin, q3⟩
theorem molet_lp {X : Nat → Int32} (hl10 : nl ≤ 10) (hX : ∀ l, l < nl → (X l = 0 ∨ X l = 1) ∧ LetE S W ls le C lb lE tb T r X l (X l)) : ∀ (k i b : Nat) (p lv : Nat → Int32), i + k = nl → (∀ l, l < i → lv l = X l) → ∃ p' lv' : Nat → Int32, lp_Mo_holds_14 T (nI nl) C lb lE (nI r) (k + 1 + b) (nI i) p lv = (nI nl, p', lv') ∧ (∀ l, l < nl → lv' l = X l) ∧ oklp_Mo_holds_14 T (nI nl) C lb lE (nI r) (k + 1 + b) (nI i) p lv := by
  intro k
  induction k with
  | zero =>
    intro i b p lv hi hh
    have hi' : i = nl := by omega
    subst hi'
    refine ⟨p, lv, ?_, hh, ?_⟩
    · rw [show 0 + 1 + b = b + 1 from by omega, lp_Mo_holds_14, if_pos (nI_le (by omega) (by omega))]
    · rw [show 0 + 1 + b = b + 1 from by omega, oklp_Mo_holds_14, if_pos (nI_le (by omega) (by omega))]
      trivial
  | succ k ih =>
    intro i b p lv hi hh
    obtain ⟨x1, x2⟩ := hX i (by omega)
    obtain ⟨p1, e1, e2⟩ := (x2 X lv (fun j hj => ⟨hh j hj, if01 (hX j (by omega)).1⟩)).2 p
    obtain ⟨p2, lv2, q1, q2, q3⟩ := ih (i + 1) b p1 (upd lv i (X i)) (by omega) (fun l hl => by
      by_cases c : l = i
      · subst c
        rw [pk_us]
      · rw [pk_un c]
        exact hh l (by omega))
    have hlt : ¬ nI nl ≤ nI i := nI_ge (by omega) (by omega)
    have hin : vp_in (nI i) 10 := vp_in_nI (by omega) (by decide)
    refine ⟨p2, lv2, ?_, q2, ?_⟩
    · rw [show k + 1 + 1 + b = (k + 1 + b) + 1 from by omega, lp_Mo_holds_14, if_neg hlt, nI_clamp (by omega), e1]
      dsimp only
      rw [nI_1]
      exact q1
    · rw [show k + 1 + 1 + b = (k + 1 + b) + 1 from by omega, oklp_Mo_holds_14, if_neg hlt, nI_clamp (by omega), e1]
      dsimp only
      rw [nI_1]
      exact ⟨hin, hin, e2, hin, q3⟩
/-- what a row comes to: the lets X, the questions Y -/
theorem row_val (R : ScrR S W Q ls le nq nl C lb lE aS aC aL aH aB aT aG aE) (hr : r < n) (hn : n ≤ 60) (hT : ∀ j, j < 6 * n → tb j = T j) : ∃ X Y : Nat → Int32, (∀ i, i < nq → Y i = 0 ∨ Y i = 1) ∧
    (∀ (hg : Int32) (st ho : Nat → Int32), ∃ (hg' : Int32) (st' ho' : Nat → Int32), lp_Scr_settleLets_2 S W ls le (nI nl) tb (nI r) 11 (0 : Int32) hg st ho = (hg', st', ho') ∧ (∀ l, l < nl → ho' l = X l) ∧ ok_Scr_settleLets S W st hg ho ls le (nI nl) tb (nI r)) ∧
    (∀ i, i < nq → ∀ (ho : Nat → Int32), (∀ l, l < nl → ho l = X l) → ∀ (st : Nat → Int32) (hg : Int32), ∃ (hg' : Int32) (st' : Nat → Int32), s_Cond_hold S W st hg ho tb (Q i 6) (Q i 7) (nI r) = (Y i, hg', st')) ∧
    (∀ i, i < nq → ∀ p lv : Nat → Int32, ∃ p' lv' : Nat → Int32, s_Mo_holds T (nI nl) C lb lE aG aE p lv (nI i) (nI r) = (Y i, p', lv') ∧ ok_Mo_holds T (nI nl) C lb lE aG aE p lv (nI i) (nI r)) := by
  have hl10 := R.nl10
  have hq12 := R.nq12
  obtain ⟨X, hX⟩ := lets_X R hr hn hT nl (Nat.le_refl _)
  -- each question's value
  have hQ : ∀ i, i < nq → ∃ y : Int32, (y = 0 ∨ y = 1) ∧ (∀ (ho : Nat → Int32), (∀ l, l < nl → ho l = X l) → ∀ (st : Nat → Int32) (hg : Int32), ∃ (hg' : Int32) (st' : Nat → Int32), s_Cond_hold S W st hg ho tb (Q i 6) (Q i 7) (nI r) = (y, hg', st')) ∧ (∀ p lv : Nat → Int32, ∃ p' lv' : Nat → Int32, s_Mo_holds T (nI nl) C lb lE aG aE p lv (nI i) (nI r) = (y, p', lv') ∧ ok_Mo_holds T (nI nl) C lb lE aG aE p lv (nI i) (nI r)) := by
    intro i hi
    have hin : vp_in (nI i) 12 := vp_in_nI (by omega) (by decide)
    rcases (R.qs i hi).2.2.2.2.2.2.2.2.2.2 with ⟨c1, c2⟩ | ⟨a, b, h, e1, e2, e3, e4, e5, e6, e7⟩
    · refine ⟨1, Or.inr rfl, fun ho _ st hg => ⟨hg, st, ?_⟩, fun p lv => ⟨p, lv, ?_, ?_⟩⟩
      · unfold s_Cond_hold
        rw [c1, if_neg (by rw [Int32.lt_iff_toInt_lt]; omega)]
      · unfold s_Mo_holds
        rw [nI_clamp (by omega), if_pos c2]
      · unfold ok_Mo_holds
        rw [nI_clamp (by omega), if_pos c2]
        exact ⟨hin, trivial⟩
    · obtain ⟨x, hx, ev⟩ := hold_eq (tb := tb) (T := T) (X := X) hr hn hT hl10 (fun l hl => (hX l hl).1) e5 e6 e7
      have hne : ¬ aE i = -1 := by
        rw [e4]
        intro z
        have := congrArg Int32.toInt z
        rw [nI_toInt (by omega), show (-1 : Int32).toInt = -1 by decide] at this
        omega
      refine ⟨x, hx, fun ho hh st hg => ?_, fun p lv => ?_⟩
      · rw [e1, e2]
        exact (ev ho X (fun j hj => ⟨rfl, by rw [hh j hj]; exact if01 (hX j hj).1⟩)).1 st hg
      · obtain ⟨p1, lv1, q1, q2, q3⟩ := molet_lp (S := S) (W := W) (tb := tb) hl10 hX nl 0 (10 - nl) p lv (by omega) (fun l hl => absurd hl (Nat.not_lt_zero _))
        rw [show nl + 1 + (10 - nl) = 11 from by omega] at q1 q3
        have q1' : lp_Mo_holds_14 T (nI nl) C lb lE (nI r) 11 (0 : Int32) p lv = (nI nl, p1, lv1) := q1
        have q3' : oklp_Mo_holds_14 T (nI nl) C lb lE (nI r) 11 (0 : Int32) p lv := q3
        obtain ⟨p2, u1, u2⟩ := (ev X lv1 (fun j hj => ⟨q2 j hj, if01 (hX j hj).1⟩)).2 p1
        refine ⟨p2, lv1, ?_, ?_⟩
        · unfold s_Mo_holds
          rw [nI_clamp (by omega), if_neg hne, q1']
          dsimp only
          rw [e3, e4, u1]
          dsimp only
          rcases hx with rfl | rfl
          · rw [if_neg (by decide)]
          · rw [if_pos rfl]
        · unfold ok_Mo_holds
          rw [nI_clamp (by omega), if_neg hne, q1']
          dsimp only
          rw [e3, e4, u1]
          refine ⟨hin, q3', hin, hin, u2, ?_⟩
          split <;> trivial
  refine ⟨X, fun i => if h : i < nq then Classical.choose (hQ i h) else 0, fun i hi => ?_, fun hg st ho => ?_, fun i hi => ?_, fun i hi => ?_⟩
  · dsimp only
    rw [dif_pos hi]
    exact (Classical.choose_spec (hQ i hi)).1
  · obtain ⟨hg1, st1, ho1, q1, q2, q3⟩ := settle_lp (S := S) (W := W) (C := C) (T := T) hl10 hX nl 0 (10 - nl) hg st ho (by omega) (fun l hl => absurd hl (Nat.not_lt_zero _))
    rw [show nl + 1 + (10 - nl) = 11 from by omega] at q1 q3
    exact ⟨hg1, st1, ho1, q1, q2, q3⟩
  · dsimp only
    rw [dif_pos hi]
    exact (Classical.choose_spec (hQ i hi)).2.1
  · dsimp only
    rw [dif_pos hi]
    exact (Classical.choose_spec (hQ i hi)).2.2
end ROW
