/-! lexing: the class cuts the text at once, the reference looks token by token -/
theorem run_ex (P : Nat → Prop) (N : Nat) : ∀ r i, i + r = N → ∃ e, i ≤ e ∧ e ≤ N ∧ (∀ j, i ≤ j → j < e → P j) ∧ (e = N ∨ ¬ P e) := by
  intro r
  induction r with
  | zero => intro i h; exact ⟨i, Nat.le_refl _, by omega, fun j h1 h2 => absurd h2 (by omega), Or.inl (by omega)⟩
  | succ r ih =>
    intro i h
    by_cases c : P i
    · obtain ⟨e, h1, h2, h3, h4⟩ := ih (i + 1) (by omega)
      refine ⟨e, by omega, h2, fun j j1 j2 => ?_, h4⟩
      by_cases d : j = i
      · rw [d]
        exact c
      · exact h3 j (by omega) j2
    · exact ⟨i, Nat.le_refl _, by omega, fun j h1 h2 => absurd h2 (by omega), Or.inr c⟩
def chAt (f : Nat → Int32) (N i : Nat) : Int32 := if i < N then f i else 0
theorem at_ch {f : Nat → Int32} {N i : Nat} (hN : N ≤ 2000) (hi : i < 2 ^ 31) : s_Text_at f (nI N) (nI i) = chAt f N i := by
  unfold s_Text_at chAt
  rw [if_neg (nI_pos hi)]
  by_cases c : i < N
  · rw [if_neg (nI_ge c (by omega)), if_pos c, nI_clamp hi]
  · rw [if_pos (nI_le (by omega) hi), if_neg c]
theorem let_ch {f : Nat → Int32} {N i : Nat} (hN : N ≤ 2000) (hi : i < 2 ^ 31) : s_Text_isLetter f (nI N) (nI i) = s_Mo_isSmall (chAt f N i) := by
  rw [← at_ch hN hi]
  rfl
theorem dgt_ch {f : Nat → Int32} {N i : Nat} (hN : N ≤ 2000) (hi : i < 2 ^ 31) : s_Text_isDigit f (nI N) (nI i) = s_Mo_isDigit (chAt f N i) := by
  rw [← at_ch hN hi]
  rfl
theorem chAt_in {f : Nat → Int32} {N i : Nat} (h : i < N) : chAt f N i = f i := if_pos h
theorem chAt_out {f : Nat → Int32} {N i : Nat} (h : N ≤ i) : chAt f N i = 0 := if_neg (by omega)
/-! letters -/
theorem cw_lp {f : Nat → Int32} {N i e : Nat} (hN : N ≤ 2000) (he : e ≤ N) (hl : ∀ j, i ≤ j → j < e → ¬ s_Mo_isSmall (f j) = 0) (hx : e = N ∨ ¬ ¬ s_Mo_isSmall (f e) = 0) (hc : chF f) : ∀ (r l b : Nat), i + l + r = e → lp_Tok_cutWord_2 f (nI N) (nI i) (r + 1 + b) (nI l) = nI (e - i) ∧ oklp_Tok_cutWord_2 f (nI N) (nI i) (r + 1 + b) (nI l) := by
  have hu : up (nI N) 2000 := up_of hN (by decide)
  intro r
  induction r with
  | zero =>
    intro l b h
    rw [show 0 + 1 + b = b + 1 from by omega, lp_Tok_cutWord_2, oklp_Tok_cutWord_2]
    by_cases c : 2000 ≤ l
    · rw [if_pos (leL (N := 2000) (a := 2000) rfl c (by omega)), if_pos (leL (N := 2000) (a := 2000) rfl c (by omega)), show e - i = l from by omega]
      exact ⟨rfl, trivial⟩
    · have hz : s_Text_isLetter f (nI N) (nI i + nI l) = 0 := by
        rw [nI_add, let_ch hN (by omega)]
        rcases hx with hx | hx
        · rw [chAt_out (by omega)]
          decide
        · by_cases d : e < N
          · rw [chAt_in (by omega), show i + l = e from by omega]
            exact Decidable.not_not.mp hx
          · rw [chAt_out (by omega)]
            decide
      rw [if_neg (geL (N := 2000) (b := 2000) rfl (by omega) (by decide)), if_neg (geL (N := 2000) (b := 2000) rfl (by omega) (by decide))]
      dsimp only
      rw [hz, if_pos rfl, if_pos rfl, show e - i = l from by omega]
      exact ⟨rfl, hu, hc, trivial⟩
  | succ r ih =>
    intro l b h
    have hz : ¬ s_Text_isLetter f (nI N) (nI i + nI l) = 0 := by
      rw [nI_add, let_ch hN (by omega), chAt_in (by omega)]
      exact hl _ (by omega) (by omega)
    obtain ⟨a1, a2⟩ := ih (l + 1) b (by omega)
    rw [show r + 1 + 1 + b = (r + 1 + b) + 1 from by omega, lp_Tok_cutWord_2, oklp_Tok_cutWord_2, if_neg (geL (N := 2000) (b := 2000) rfl (by omega) (by decide)), if_neg (geL (N := 2000) (b := 2000) rfl (by omega) (by decide))]
    dsimp only
    rw [if_neg hz, if_neg hz, nI_1]
    exact ⟨a1, hu, hc, a2⟩
theorem lk_lp {g : Nat → Int32} {N e : Nat} {B pl w : Int32} (hN : N ≤ 2000) (he : e ≤ N) (hx : e = N ∨ ¬ ¬ s_Mo_isSmall (g e) = 0) : ∀ (r a b : Nat), a + r = e → (∀ j, a ≤ j → j < e → ¬ s_Mo_isSmall (g j) = 0) → lp_Mo_look_86 g (nI N) (r + 1 + b) B (nI a) pl w = nI e := by
  intro r
  induction r with
  | zero =>
    intro a b h hl
    have ha : a = e := by omega
    subst ha
    rw [show 0 + 1 + b = b + 1 from by omega, lp_Mo_look_86]
    by_cases c : N ≤ a
    · rw [if_pos (nI_le c (by omega))]
    · rw [if_neg (nI_ge (by omega) (by omega)), nI_clamp (by omega)]
      dsimp only
      rw [if_pos]
      rcases hx with hx | hx
      · omega
      · exact Decidable.not_not.mp hx
  | succ r ih =>
    intro a b h hl
    rw [show r + 1 + 1 + b = (r + 1 + b) + 1 from by omega, lp_Mo_look_86, if_neg (nI_ge (by omega) (by omega)), nI_clamp (by omega)]
    dsimp only
    rw [if_neg (hl a (Nat.le_refl _) (by omega)), nI_1]
    exact ih (a + 1) b (by omega) (fun j j1 j2 => hl j (by omega) j2)
theorem sp_lp {g : Nat → Int32} {N e : Nat} (hN : N ≤ 2000) (he : e ≤ N) (hx : e = N ∨ ¬ g e = 32) : ∀ (r a b : Nat), a + r = e → (∀ j, a ≤ j → j < e → g j = 32) → lp_Mo_look_0 g (nI N) (r + 1 + b) (nI a) = nI e := by
  intro r
  induction r with
  | zero =>
    intro a b h hl
    have ha : a = e := by omega
    subst ha
    rw [show 0 + 1 + b = b + 1 from by omega, lp_Mo_look_0]
    by_cases c : N ≤ a
    · rw [if_pos (nI_le c (by omega))]
    · rw [if_neg (nI_ge (by omega) (by omega)), nI_clamp (by omega), if_neg]
      rcases hx with hx | hx
      · omega
      · exact hx
  | succ r ih =>
    intro a b h hl
    rw [show r + 1 + 1 + b = (r + 1 + b) + 1 from by omega, lp_Mo_look_0, if_neg (nI_ge (by omega) (by omega)), nI_clamp (by omega), if_pos (hl a (Nat.le_refl _) (by omega)), nI_1]
    exact ih (a + 1) b (by omega) (fun j j1 j2 => hl j (by omega) j2)
/-! digits -/
def dgt (c : Int32) : Nat := c.toNatClampNeg - 48
theorem dgt_nI {c : Int32} (h : ¬ s_Mo_isDigit c = 0) : dgt c < 10 ∧ c = nI (48 + dgt c) := by
  unfold s_Mo_isDigit at h
  split at h
  · exact absurd rfl h
  · rename_i h1
    split at h
    · exact absurd rfl h
    · rename_i h2
      rw [Int32.lt_iff_toInt_lt, show (48 : Int32).toInt = 48 by decide] at h1
      rw [Int32.lt_iff_toInt_lt, show (57 : Int32).toInt = 57 by decide] at h2
      obtain ⟨n, hn, hn2, rfl⟩ := up_nI (v := c) (N := 57) ⟨by omega, by omega⟩
      rw [nI_toInt hn2] at h1
      unfold dgt
      rw [nI_clamp hn2]
      exact ⟨by omega, by rw [show 48 + (n - 48) = n from by omega]⟩
def numV (f : Nat → Int32) (i : Nat) : Nat → Nat
  | 0 => 0
  | l + 1 => 10 * numV f i l + dgt (f (i + l))
theorem numV_le {f : Nat → Int32} {i : Nat} : ∀ r l, numV f i l ≤ numV f i (l + r) := by
  intro r
  induction r with
  | zero => intro l; exact Nat.le_refl _
  | succ r ih =>
    intro l
    have := ih l
    have e : numV f i (l + (r + 1)) = 10 * numV f i (l + r) + dgt (f (i + (l + r))) := rfl
    omega
theorem numV_lt {f : Nat → Int32} {i : Nat} : ∀ l, (∀ j, i ≤ j → j < i + l → dgt (f j) < 10) → numV f i l < 10 ^ l := by
  intro l
  induction l with
  | zero => intro _; exact Nat.one_pos
  | succ l ih =>
    intro h
    have h1 := ih (fun j j1 j2 => h j j1 (by omega))
    have h2 := h (i + l) (by omega) (by omega)
    show 10 * numV f i l + dgt (f (i + l)) < 10 ^ (l + 1)
    rw [Nat.pow_succ]
    omega
theorem num_next {Y : Nat} {c : Int32} (hY : Y ≤ 2147483648) (h : ¬ s_Mo_isDigit c = 0) : lN Y * 10 + c.toInt64 - 48 = lN (10 * Y + dgt c) ∧ 10 * lN Y + c.toInt64 - 48 = lN (10 * Y + dgt c) := by
  obtain ⟨h1, h2⟩ := dgt_nI h
  have e1 : c.toInt64 = lN (48 + dgt c) := by
    rw [h2, nI_l (by omega), ← h2]
  have e2 : lN (10 * Y) + lN (48 + dgt c) - 48 = lN (10 * Y + dgt c) := by
    rw [lN_add]
    have := lN_sub (a := 10 * Y + (48 + dgt c)) (b := 48) (by omega)
    rw [show 10 * Y + (48 + dgt c) - 48 = 10 * Y + dgt c from by omega] at this
    exact this
  have e3 : lN Y * 10 = lN (10 * Y) := by
    have := lN_mul Y 10
    rw [Nat.mul_comm] at this
    exact this
  have e4 : 10 * lN Y = lN (10 * Y) := lN_mul 10 Y
  exact ⟨by rw [e3, e1]; exact e2, by rw [e4, e1]; exact e2⟩
theorem num_cmp {Y : Nat} (hY : Y < 2 ^ 60) : lg_cmp (lN Y) 2147483647 ≤ 0 ↔ Y ≤ 2147483647 := by
  rw [lg_cmp_le]
  exact pk_lLE (b := 2147483647) (by omega) (by decide)
theorem put_nI {K V P : Nat → Int32} {w : Nat} {k v x : Int32} (hw : w ≤ 2000) : s_Tok_put K V P (nI w) k v x = (upd K w k, upd V w v, upd P w x) := by
  unfold s_Tok_put
  have h : ¬ (2001 : Int32) ≤ nI w := geL (N := 2001) (b := 2001) rfl (by omega) (by decide)
  rw [if_neg h, if_neg h, if_neg h, nI_clamp (by omega)]
theorem cn_lp {f K V P : Nat → Int32} {N i e w : Nat} (hN : N ≤ 2000) (he : e ≤ N) (hl : ∀ j, i ≤ j → j < e → ¬ s_Mo_isDigit (f j) = 0) (hx : e = N ∨ ¬ ¬ s_Mo_isDigit (f e) = 0) (hc : chF f) (hw : w ≤ 2000) : ∀ (r l b : Nat), i + l + r = e → numV f i l ≤ 2147483647 →
    lp_Tok_cutNumber_5 K V P (nI w) f (nI N) (nI i) (r + 1 + b) (lN (numV f i l)) (nI l) = (if numV f i (e - i) ≤ 2147483647 then (nI (e - i), upd K w 2, upd V w (nI (numV f i (e - i))), upd P w (nI i)) else (0, K, V, P)) ∧ oklp_Tok_cutNumber_5 K V P (nI w) f (nI N) (nI i) (r + 1 + b) (lN (numV f i l)) (nI l) := by
  have hu : up (nI N) 2000 := up_of hN (by decide)
  have hu2 : up (nI w) 2001 := up_of (by omega) (by decide)
  intro r
  induction r with
  | zero =>
    intro l b h hv
    have hle : e - i = l := by omega
    rw [hle, if_pos hv, show 0 + 1 + b = b + 1 from by omega, lp_Tok_cutNumber_5, oklp_Tok_cutNumber_5]
    by_cases c : 2000 ≤ l
    · rw [if_pos (leL (N := 2000) (a := 2000) rfl c (by omega)), if_pos (leL (N := 2000) (a := 2000) rfl c (by omega)), put_nI hw, lN_i]
      exact ⟨rfl, hu2, trivial⟩
    · have hz : s_Text_isDigit f (nI N) (nI i + nI l) = 0 := by
        rw [nI_add, dgt_ch hN (by omega)]
        rcases hx with hx | hx
        · rw [chAt_out (by omega)]
          decide
        · by_cases d : e < N
          · rw [chAt_in (by omega), show i + l = e from by omega]
            exact Decidable.not_not.mp hx
          · rw [chAt_out (by omega)]
            decide
      rw [if_neg (geL (N := 2000) (b := 2000) rfl (by omega) (by decide)), if_neg (geL (N := 2000) (b := 2000) rfl (by omega) (by decide))]
      dsimp only
      rw [hz, if_pos rfl, if_pos rfl, put_nI hw, lN_i]
      exact ⟨rfl, hu, hc, hu2, trivial⟩
  | succ r ih =>
    intro l b h hv
    have hd := hl (i + l) (by omega) (by omega)
    have hz : ¬ s_Text_isDigit f (nI N) (nI i + nI l) = 0 := by
      rw [nI_add, dgt_ch hN (by omega), chAt_in (by omega)]
      exact hd
    have ha : s_Text_at f (nI N) (nI i + nI l) = f (i + l) := by rw [nI_add, at_ch hN (by omega), chAt_in (by omega)]
    have hn := (num_next (Y := numV f i l) (by omega) hd).1
    have hnv : 10 * numV f i l + dgt (f (i + l)) = numV f i (l + 1) := rfl
    have hd9 := (dgt_nI hd).1
    rw [show r + 1 + 1 + b = (r + 1 + b) + 1 from by omega, lp_Tok_cutNumber_5, oklp_Tok_cutNumber_5, if_neg (geL (N := 2000) (b := 2000) rfl (by omega) (by decide)), if_neg (geL (N := 2000) (b := 2000) rfl (by omega) (by decide))]
    dsimp only
    rw [if_neg hz, if_neg hz, ha, hn, hnv, nI_1]
    by_cases c : numV f i (l + 1) ≤ 2147483647
    · obtain ⟨a1, a2⟩ := ih (l + 1) b (by omega) c
      rw [if_pos ((num_cmp (by omega)).mpr c), if_pos ((num_cmp (by omega)).mpr c)]
      exact ⟨a1, hu, hc, hu, hc, a2⟩
    · have hbig : ¬ numV f i (e - i) ≤ 2147483647 := by
        have := numV_le (f := f) (i := i) (e - i - (l + 1)) (l + 1)
        rw [show l + 1 + (e - i - (l + 1)) = e - i from by omega] at this
        omega
      rw [if_neg (fun q => c ((num_cmp (by omega)).mp q)), if_neg (fun q => c ((num_cmp (by omega)).mp q)), if_neg hbig]
      exact ⟨rfl, hu, hc, hu, hc, trivial⟩
theorem rn_lp {g : Nat → Int32} {N i e : Nat} {w : Int32} (hN : N ≤ 2000) (he : e ≤ N) (hl : ∀ j, i ≤ j → j < e → ¬ s_Mo_isDigit (g j) = 0) (hx : e = N ∨ ¬ ¬ s_Mo_isDigit (g e) = 0) : ∀ (r l b : Nat), i + l + r = e →
    lp_Mo_readNumber_8 g (nI N) (r + 1 + b) (lN (min (numV g i l) 2147483648)) (nI (i + l)) w = (if numV g i (e - i) ≤ 2147483647 then (nI e, 15, nI (numV g i (e - i))) else (nI e, 31, nI 2147483648)) := by
  intro r
  induction r with
  | zero =>
    intro l b h
    have hle : e - i = l := by omega
    rw [hle, show 0 + 1 + b = b + 1 from by omega, lp_Mo_readNumber_8, lN_i, show i + l = e from by omega]
    have hfin : (if lg_cmp (lN (min (numV g i l) 2147483648)) 2147483647 ≤ 0 then (nI e, (15 : Int32), nI (min (numV g i l) 2147483648)) else (nI e, 31, nI (min (numV g i l) 2147483648))) = (if numV g i l ≤ 2147483647 then (nI e, 15, nI (numV g i l)) else (nI e, 31, nI 2147483648)) := by
      by_cases c : numV g i l ≤ 2147483647
      · rw [if_pos c, show min (numV g i l) 2147483648 = numV g i l from by omega, if_pos ((num_cmp (by omega)).mpr c)]
      · rw [if_neg c, show min (numV g i l) 2147483648 = 2147483648 from by omega, if_neg (fun q => absurd ((num_cmp (by decide)).mp q) (by decide))]
    by_cases c : N ≤ e
    · rw [if_pos (nI_le c (by omega))]
      exact hfin
    · have hz : s_Mo_isDigit (g e) = 0 := by
        rcases hx with hx | hx
        · omega
        · exact Decidable.not_not.mp hx
      rw [if_neg (nI_ge (by omega) (by omega)), nI_clamp (by omega)]
      dsimp only
      rw [if_pos hz]
      exact hfin
  | succ r ih =>
    intro l b h
    have hd := hl (i + l) (by omega) (by omega)
    have hd9 := (dgt_nI hd).1
    have hn := (num_next (Y := min (numV g i l) 2147483648) (by omega) hd).2
    have hnv : numV g i (l + 1) = 10 * numV g i l + dgt (g (i + l)) := rfl
    have h1 := ih (l + 1) b (by omega)
    rw [show r + 1 + 1 + b = (r + 1 + b) + 1 from by omega, lp_Mo_readNumber_8, if_neg (nI_ge (by omega) (by omega)), nI_clamp (by omega)]
    dsimp only
    rw [if_neg hd, hn, nI_1]
    by_cases c : numV g i (l + 1) ≤ 2147483647
    · have hm : 10 * min (numV g i l) 2147483648 + dgt (g (i + l)) = min (numV g i (l + 1)) 2147483648 := by omega
      rw [hm, if_pos ((num_cmp (by omega)).mpr (by omega))]
      exact h1
    · have hm : min (numV g i (l + 1)) 2147483648 = 2147483648 := by omega
      have hb : ¬ 10 * min (numV g i l) 2147483648 + dgt (g (i + l)) ≤ 2147483647 := by omega
      rw [if_neg (fun q => hb ((num_cmp (by omega)).mp q))]
      rw [hm] at h1
      exact h1
