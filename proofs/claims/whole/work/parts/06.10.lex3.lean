/-! one token: the class's cut and the reference's look -/
def LkAt (g : Nat → Int32) (N i : Nat) (a kd vl : Int32) : Prop := ∀ s, s ≤ i → (∀ j, s ≤ j → j < i → g j = 32) → s_Mo_look g (nI N) (nI s) = (a, nI i, kd, vl)
theorem look_sp {g : Nat → Int32} {N s i : Nat} (hN : N ≤ 2000) (hi : i ≤ N) (hsi : s ≤ i) (hs : ∀ j, s ≤ j → j < i → g j = 32) (hx : i = N ∨ ¬ g i = 32) : lp_Mo_look_0 g (nI N) ((((nI N).toInt - (nI s).toInt).toNat) + 1) (nI s) = nI i := by
  rw [nI_toInt (by omega), nI_toInt (by omega), show ((N : Int) - (s : Int)).toNat + 1 = (i - s) + 1 + (N - i) from by omega]
  exact sp_lp hN hi hx (i - s) s (N - i) (by omega) hs
theorem look_end {g : Nat → Int32} {N s : Nat} (hN : N ≤ 2000) (hsi : s ≤ N) (hs : ∀ j, s ≤ j → j < N → g j = 32) : s_Mo_look g (nI N) (nI s) = (nI N, nI N, 30, 0) := by
  unfold s_Mo_look
  rw [look_sp hN (Nat.le_refl N) hsi hs (Or.inl rfl)]
  dsimp only
  rw [if_pos rfl]
theorem numV_cg {f g : Nat → Int32} {N i : Nat} (h : ∀ j, j < N → f j = g j) : ∀ l, i + l ≤ N → numV f i l = numV g i l := by
  intro l
  induction l with
  | zero => intro _; rfl
  | succ l ih =>
    intro hl
    show 10 * numV f i l + dgt (f (i + l)) = 10 * numV g i l + dgt (g (i + l))
    rw [ih (by omega), h _ (by omega)]
theorem dl_len {v l : Nat} (hv : v < 2 ^ 31) (h : v < 10 ^ l) (hl : 1 ≤ l) : (dl v 9).length ≤ l := by
  obtain ⟨s, h1, h2, h3, h4⟩ := dl_all hv
  rw [h4, fl_len]
  rcases h3 with h3 | h3
  · omega
  · have h5 : 10 ^ s < 10 ^ l := Nat.lt_of_le_of_lt h3 h
    have h6 : s < l := (Nat.pow_lt_pow_iff_right (by decide)).mp h5
    omega
section ONE
variable {f g K V P : Nat → Int32} {N i w : Nat}
/-- the outcome -/
def OneR (f g K V P : Nat → Int32) (N i w : Nat) : Prop := ok_Tok_cutOne K V P (nI w) f (nI N) (nI i) ∧ ((∃ k v len : Nat, tokOK k v ∧ 1 ≤ len ∧ i + len ≤ N ∧ (tw k v).length ≤ len ∧ s_Tok_cutOne K V P (nI w) f (nI N) (nI i) = (nI len, upd K w (nI k), upd V w (nI v), upd P w (nI i)) ∧ LkAt g N i (nI (i + len)) (nI (km k)) (nI v)) ∨
  (s_Tok_cutOne K V P (nI w) f (nI N) (nI i) = (0, K, V, P) ∧ ∃ a v : Int32, LkAt g N i a 31 v))
theorem one_num (hN : N ≤ 2000) (hi : i < N) (hw : w ≤ 2000) (hc : chF f) (hfg : ∀ j, j < N → f j = g j) (h1 : s_Mo_isSmall (f i) = 0) (h2 : ¬ s_Mo_isDigit (f i) = 0) (hsp : ¬ f i = 32) : OneR f g K V P N i w := by
  have hu : up (nI N) 2000 := up_of hN (by decide)
  have hg1 : s_Mo_isSmall (g i) = 0 := by rw [← hfg i hi]; exact h1
  have hg2 : ¬ s_Mo_isDigit (g i) = 0 := by rw [← hfg i hi]; exact h2
  have hg3 : ¬ g i = 32 := by rw [← hfg i hi]; exact hsp
  obtain ⟨e, e1, e2, e3, e4⟩ := run_ex (fun j => ¬ s_Mo_isDigit (g j) = 0) N (N - i) i (by omega)
  have e5 : i < e := by
    rcases Nat.lt_or_ge i e with q | q
    · exact q
    · have : e = i := by omega
      subst this
      rcases e4 with e4 | e4
      · omega
      · exact absurd hg2 e4
  have f3 : ∀ j, i ≤ j → j < e → ¬ s_Mo_isDigit (f j) = 0 := fun j j1 j2 => by rw [hfg j (by omega)]; exact e3 j j1 j2
  have f4 : e = N ∨ ¬ ¬ s_Mo_isDigit (f e) = 0 := by
    rcases e4 with e4 | e4
    · exact Or.inl e4
    · by_cases q : e < N
      · exact Or.inr (by rw [hfg e q]; exact e4)
      · exact Or.inl (by omega)
  obtain ⟨c1, c2⟩ := cn_lp (K := K) (V := V) (P := P) (w := w) hN e2 f3 f4 hc hw (e - i) 0 (2000 - (e - i)) (by omega) (Nat.zero_le _)
  rw [show e - i + 1 + (2000 - (e - i)) = 2001 from by omega] at c1 c2
  have c1' : lp_Tok_cutNumber_5 K V P (nI w) f (nI N) (nI i) 2001 0 (0 : Int32) = (if numV f i (e - i) ≤ 2147483647 then (nI (e - i), upd K w 2, upd V w (nI (numV f i (e - i))), upd P w (nI i)) else (0, K, V, P)) := c1
  have c2' : oklp_Tok_cutNumber_5 K V P (nI w) f (nI N) (nI i) 2001 0 (0 : Int32) := c2
  have hl1 : s_Text_isLetter f (nI N) (nI i) = 0 := by rw [let_ch hN (by omega), chAt_in hi]; exact h1
  have hl2 : ¬ s_Text_isDigit f (nI N) (nI i) = 0 := by rw [dgt_ch hN (by omega), chAt_in hi]; exact h2
  have rr := rn_lp (w := 15) hN e2 e3 e4 (e - i) 0 (N - e) (by omega)
  have hcg := numV_cg (f := f) (g := g) (i := i) hfg (e - i) (by omega)
  have look : LkAt g N i (if numV g i (e - i) ≤ 2147483647 then (nI e, (15 : Int32), nI (numV g i (e - i))) else (nI e, 31, nI 2147483648)).1 (if numV g i (e - i) ≤ 2147483647 then (nI e, (15 : Int32), nI (numV g i (e - i))) else (nI e, 31, nI 2147483648)).2.1 (if numV g i (e - i) ≤ 2147483647 then (nI e, (15 : Int32), nI (numV g i (e - i))) else (nI e, 31, nI 2147483648)).2.2 := by
    intro s s1 s2
    unfold s_Mo_look
    rw [look_sp hN (by omega) s1 s2 (Or.inr hg3)]
    dsimp only
    rw [if_neg (ne_nI (by omega) (by omega) (by omega)), nI_clamp (by omega), if_pos hg1, if_neg hg2, nI_toInt (by omega), nI_toInt (by omega), show ((N : Int) - (i : Int)).toNat + 1 = e - i + 1 + (N - e) from by omega]
    have rr' : lp_Mo_readNumber_8 g (nI N) (e - i + 1 + (N - e)) 0 (nI i) (15 : Int32) = (if numV g i (e - i) ≤ 2147483647 then (nI e, 15, nI (numV g i (e - i))) else (nI e, 31, nI 2147483648)) := rr
    rw [rr']
  refine ⟨?_, ?_⟩
  · unfold ok_Tok_cutOne ok_Tok_cutNumber
    dsimp only
    rw [hl1, if_pos rfl, if_neg hl2]
    exact ⟨hu, hc, hu, hc, c2', trivial⟩
  · have hcut : s_Tok_cutOne K V P (nI w) f (nI N) (nI i) = (if numV f i (e - i) ≤ 2147483647 then (nI (e - i), upd K w 2, upd V w (nI (numV f i (e - i))), upd P w (nI i)) else (0, K, V, P)) := by
      unfold s_Tok_cutOne
      dsimp only
      rw [hl1, if_pos rfl, if_neg hl2, c1']
    rw [hcut]
    by_cases c : numV f i (e - i) ≤ 2147483647
    · rw [if_pos c]
      rw [← hcg, if_pos c] at look
      have hlt := numV_lt (f := f) (i := i) (e - i) (fun j j1 j2 => (dgt_nI (f3 j j1 (by omega))).1)
      refine Or.inl ⟨2, numV f i (e - i), e - i, ⟨by decide, by decide, by omega, fun h => absurd h (by decide), fun h => absurd h (by decide), fun h => absurd h (by decide)⟩, by omega, by omega, dl_len (by omega) hlt (by omega), rfl, ?_⟩
      rw [show i + (e - i) = e from by omega]
      exact look
    · rw [if_neg c]
      rw [← hcg, if_neg c] at look
      exact Or.inr ⟨rfl, _, _, look⟩
theorem one_word (hN : N ≤ 2000) (hi : i < N) (hw : w ≤ 2000) (hc : chF f) (hfg : ∀ j, j < N → f j = g j) (h1 : ¬ s_Mo_isSmall (f i) = 0) (hsp : ¬ f i = 32) : OneR f g K V P N i w := by
  have hu : up (nI N) 2000 := up_of hN (by decide)
  have hu2 : up (nI w) 2001 := up_of (by omega) (by decide)
  have hg1 : ¬ s_Mo_isSmall (g i) = 0 := by rw [← hfg i hi]; exact h1
  have hg3 : ¬ g i = 32 := by rw [← hfg i hi]; exact hsp
  obtain ⟨e, e1, e2, e3, e4⟩ := run_ex (fun j => ¬ s_Mo_isSmall (g j) = 0) N (N - i) i (by omega)
  have e5 : i < e := by
    rcases Nat.lt_or_ge i e with q | q
    · exact q
    · have : e = i := by omega
      subst this
      rcases e4 with e4 | e4
      · omega
      · exact absurd hg1 e4
  have f3 : ∀ j, i ≤ j → j < e → ¬ s_Mo_isSmall (f j) = 0 := fun j j1 j2 => by rw [hfg j (by omega)]; exact e3 j j1 j2
  have f4 : e = N ∨ ¬ ¬ s_Mo_isSmall (f e) = 0 := by
    rcases e4 with e4 | e4
    · exact Or.inl e4
    · by_cases q : e < N
      · exact Or.inr (by rw [hfg e q]; exact e4)
      · exact Or.inl (by omega)
  obtain ⟨c1, c2⟩ := cw_lp hN e2 f3 f4 hc (e - i - 1) 1 (2001 - (e - i)) (by omega)
  rw [show e - i - 1 + 1 + (2001 - (e - i)) = 2001 from by omega] at c1 c2
  have c1' : lp_Tok_cutWord_2 f (nI N) (nI i) 2001 (1 : Int32) = nI (e - i) := c1
  have c2' : oklp_Tok_cutWord_2 f (nI N) (nI i) 2001 (1 : Int32) := c2
  have hl1 : ¬ s_Text_isLetter f (nI N) (nI i) = 0 := by rw [let_ch hN (by omega), chAt_in hi]; exact h1
  have look : ∀ k v : Int32, s_Mo_classify g 0 (nI i) (nI e) = (k, v) → LkAt g N i (nI e) k v := by
    intro k v hcl s s1 s2
    unfold s_Mo_look
    rw [look_sp hN (by omega) s1 s2 (Or.inr hg3)]
    dsimp only
    rw [if_neg (ne_nI (by omega) (by omega) (by omega)), nI_clamp (by omega), if_neg hg1, nI_toInt (by omega), nI_toInt (by omega), show ((N : Int) - (i : Int)).toNat + 1 = e - i + 1 + (N - e) from by omega, lk_lp hN e2 e4 (e - i) i (N - e) (by omega) e3, hcl]
  have hcutE : s_Tok_cutOne K V P (nI w) f (nI N) (nI i) = s_Tok_cutWord K V P (nI w) f (nI N) (nI i) := by
    unfold s_Tok_cutOne
    dsimp only
    rw [if_neg hl1]
  have hokE : ok_Tok_cutWord K V P (nI w) f (nI N) (nI i) → ok_Tok_cutOne K V P (nI w) f (nI N) (nI i) := fun z => by
    unfold ok_Tok_cutOne
    dsimp only
    rw [if_neg hl1]
    exact ⟨hu, hc, z, trivial⟩
  unfold OneR
  rw [hcutE]
  by_cases l1 : e - i = 1
  · obtain ⟨x1, x2, x3⟩ := ltr_nI h1
    have hgx : g i = nI (96 + ltr (f i)) := by rw [← hfg i hi]; exact x3
    have hat : s_Text_at f (nI N) (nI i) = nI (96 + ltr (f i)) := by rw [at_ch hN (by omega), chAt_in hi]; exact x3
    generalize ltr (f i) = y at x1 x2 hgx hat
    have hsub : nI (96 + y) - 97 = nI (y - 1) := by
      rw [show nI (96 + y) - 97 = nI (96 + y - 97) from pk_sub (b := 97) (by omega)]
      congr 1
      omega
    refine ⟨hokE ?_, Or.inl ?_⟩
    · unfold ok_Tok_cutWord
      dsimp only
      rw [c1', if_pos (show nI (e - i) = 1 by rw [l1]; rfl), hat, hsub]
      refine ⟨c2', hu, hc, ?_⟩
      split
      · exact ⟨hu2, trivial⟩
      · exact ⟨hu2, trivial⟩
    · have hcw : s_Tok_cutWord K V P (nI w) f (nI N) (nI i) = (if 6 ≤ nI (y - 1) then (1, upd K w 4, upd V w (nI (y - 1)), upd P w (nI i)) else (1, upd K w 3, upd V w (nI (y - 1)), upd P w (nI i))) := by
        unfold s_Tok_cutWord
        dsimp only
        rw [c1', if_pos (show nI (e - i) = 1 by rw [l1]; rfl), hat, hsub, put_nI hw, put_nI hw]
      have hcl : s_Mo_classify g 0 (nI i) (nI e) = (if 6 ≤ nI (y - 1) then (14, nI (y - 1)) else (13, nI (y - 1))) := by
        unfold s_Mo_classify
        rw [pk_sub (by omega), l1, if_pos (show nI 1 = 1 from rfl), nI_clamp (by omega), hgx, hsub]
      rw [hcw]
      by_cases c : 6 ≤ y - 1
      · have c' : (6 : Int32) ≤ nI (y - 1) := leL (N := 6) (a := 6) rfl c (by omega)
        rw [if_pos c']
        rw [if_pos c'] at hcl
        refine ⟨4, y - 1, 1, ⟨by decide, by decide, by omega, fun h => absurd h (by decide), fun _ => ⟨c, by omega⟩, fun h => absurd h (by decide)⟩, by decide, by omega, Nat.le_refl 1, rfl, ?_⟩
        rw [show i + 1 = e from by omega]
        exact look _ _ hcl
      · have c' : ¬ (6 : Int32) ≤ nI (y - 1) := geL (N := 6) (b := 6) rfl (by omega) (by decide)
        rw [if_neg c']
        rw [if_neg c'] at hcl
        refine ⟨3, y - 1, 1, ⟨by decide, by decide, by omega, fun _ => by omega, fun h => absurd h (by decide), fun h => absurd h (by decide)⟩, by decide, by omega, Nat.le_refl 1, rfl, ?_⟩
        rw [show i + 1 = e from by omega]
        exact look _ _ hcl
  · have hne : ¬ nI (e - i) = 1 := neR (N := 1) (j := 1) rfl (by omega) (by decide) l1
    obtain ⟨k1, k2, k3⟩ := ck_lp (f := f) (K := K) (V := V) (P := P) (N := N) (i := i) (w := w) (l := e - i) hN (by omega) hc hw (by omega) 12 5 0 (by decide) (by decide)
    have hcw : s_Tok_cutWord K V P (nI w) f (nI N) (nI i) = lp_Tok_cutWord_64 K V P (nI w) f (nI N) (nI i) 13 (nI (e - i)) (5 : Int32) := by
      unfold s_Tok_cutWord
      dsimp only
      rw [c1', if_neg hne]
    have hok : ok_Tok_cutWord K V P (nI w) f (nI N) (nI i) := by
      unfold ok_Tok_cutWord
      dsimp only
      rw [c1', if_neg hne]
      exact ⟨c2', k3⟩
    refine ⟨hokE hok, ?_⟩
    rw [hcw]
    by_cases h5 : e - i ≤ 5
    · have hcl := cls_wk (g := g) (i := i) (e := e) (by omega) (by omega) h5 e3
      rcases mw_wk hN e2 (by omega) h5 hfg e3 with ⟨k, q1, q2, q3, q4⟩ | ⟨q1, q2⟩
      · rw [q4] at hcl
        refine Or.inl ⟨k, 0, e - i, ⟨by omega, by omega, by decide, fun z => by omega, fun z => by omega, fun _ => rfl⟩, by omega, by omega, ?_, k1 k q1 q2 q3 (fun k' z1 z2 z3 => ?_), ?_⟩
        · unfold tw
          rw [if_neg (by omega), if_neg (by omega), q3.1]
          exact Nat.le_refl _
        · have := mw_uniq z1 (by omega) q1 q2 z3 q3
          omega
        · rw [show i + (e - i) = e from by omega]
          exact look _ _ hcl
      · rw [q2] at hcl
        exact Or.inr ⟨k2 q1, _, _, look _ _ hcl⟩
    · have hcl : s_Mo_classify g 0 (nI i) (nI e) = (31, 0) := by
        have hwa : lp_Mo_wordAt_5 g (nI i) (nI e) (((nI e).toInt - (nI i).toInt).toNat + 1) (0 : Int32) (nI i) = 0 := by
          rw [lp_Mo_wordAt_5, if_neg (nI_ge (by omega) (by omega)), if_pos (by rw [pk_sub (by omega)]; exact ltL (N := 5) (a := 5) rfl (by omega) (by omega))]
        unfold s_Mo_classify
        rw [pk_sub (by omega), if_neg hne]
        dsimp only
        rw [hwa, if_pos rfl]
      refine Or.inr ⟨k2 (fun k z1 z2 z3 => ?_), _, _, look _ _ hcl⟩
      have := (wd_tab k (by omega) z1).2.1
      have := z3.1
      omega
/-! signs -/
theorem mt_1 {k c : Nat} (hw : wd k = [c]) : Mt f N i k ↔ chAt f N i = nI c := by
  unfold Mt
  rw [hw]
  constructor
  · intro h
    exact h 0 (show 0 < 1 by decide)
  · intro h q hq
    have hq : q < 1 := hq
    have : q = 0 := by omega
    subst this
    exact h
theorem mt_2 {k c d : Nat} (hw : wd k = [c, d]) : Mt f N i k ↔ chAt f N i = nI c ∧ chAt f N (i + 1) = nI d := by
  unfold Mt
  rw [hw]
  constructor
  · intro h
    exact ⟨h 0 (show 0 < 2 by decide), h 1 (show 1 < 2 by decide)⟩
  · intro h q hq
    have hq : q < 2 := hq
    have h2 : q = 0 ∨ q = 1 := by omega
    rcases h2 with rfl | rfl
    · exact h.1
    · exact h.2
theorem one_sign (hN : N ≤ 2000) (hi : i < N) (hw : w ≤ 2000) (hc : chF f) (hfg : ∀ j, j < N → f j = g j) (h1 : s_Mo_isSmall (f i) = 0) (h2 : s_Mo_isDigit (f i) = 0) (hsp : ¬ f i = 32) : OneR f g K V P N i w := by
  have hu : up (nI N) 2000 := up_of hN (by decide)
  have hg1 : s_Mo_isSmall (g i) = 0 := by rw [← hfg i hi]; exact h1
  have hg2 : s_Mo_isDigit (g i) = 0 := by rw [← hfg i hi]; exact h2
  have hg3 : ¬ g i = 32 := by rw [← hfg i hi]; exact hsp
  have hl1 : s_Text_isLetter f (nI N) (nI i) = 0 := by rw [let_ch hN (by omega), chAt_in hi]; exact h1
  have hl2 : s_Text_isDigit f (nI N) (nI i) = 0 := by rw [dgt_ch hN (by omega), chAt_in hi]; exact h2
  obtain ⟨k1, k2, k3⟩ := cs_lp (f := f) (K := K) (V := V) (P := P) (N := N) (i := i) (w := w) hN (by omega) hc hw 14 17 0 (by decide) (by decide)
  have hcut : s_Tok_cutOne K V P (nI w) f (nI N) (nI i) = lp_Tok_cutSign_3 K V P (nI w) f (nI N) (nI i) (14 + 1 + 0) (nI 17) := by
    unfold s_Tok_cutOne
    dsimp only
    rw [hl1, if_pos rfl, hl2, if_pos rfl]
    rfl
  have hpk : s_Mo_peek g (nI N) (nI i + 1) = chAt f N (i + 1) := by
    unfold s_Mo_peek chAt
    rw [nI_1]
    by_cases c : i + 1 < N
    · rw [if_neg (nI_ge c (by omega)), if_pos c, nI_clamp (by omega), hfg _ c]
    · rw [if_pos (nI_le (by omega) (by omega)), if_neg c]
  have b0 : chAt f N i = g i := by rw [chAt_in hi, hfg i hi]
  have hl : ∀ (n : Nat), i + n ≤ N + 1 → True := fun _ _ => trivial
  have in2 : ∀ {c : Nat}, 0 < c → c < 1000 → chAt f N (i + 1) = nI c → i + 2 ≤ N := fun {c} c0 c1 h => by
    rcases Nat.lt_or_ge (i + 1) N with q | q
    · omega
    · rw [chAt_out q] at h
      exact absurd h.symm (nI_ne0 c0 (by omega))
  have look1 : ∀ kd : Int32, ¬ g i = 60 → ¬ g i = 62 → s_Mo_signKind (g i) = kd → LkAt g N i (nI (i + 1)) kd 0 := by
    intro kd n1 n2 hk s s1 s2
    unfold s_Mo_look
    rw [look_sp hN (by omega) s1 s2 (Or.inr hg3)]
    dsimp only
    rw [if_neg (ne_nI (by omega) (by omega) (by omega)), nI_clamp (by omega), hg1, if_pos rfl, hg2, if_pos rfl, if_neg n1, if_neg n2, hk, nI_1]
  have look2 : ∀ a kd : Int32, g i = 60 ∨ g i = 62 → s_Mo_compareSign g (nI N) (nI i) = (a, kd) → LkAt g N i a kd 0 := by
    intro a kd n1 hk s s1 s2
    unfold s_Mo_look
    rw [look_sp hN (by omega) s1 s2 (Or.inr hg3)]
    dsimp only
    rw [if_neg (ne_nI (by omega) (by omega) (by omega)), nI_clamp (by omega), hg1, if_pos rfl, hg2, if_pos rfl, hk]
    rcases n1 with n1 | n1
    · rw [if_pos n1]
    · rw [if_neg (by rw [n1]; decide), if_pos n1]
  refine ⟨?_, ?_⟩
  · unfold ok_Tok_cutOne ok_Tok_cutSign
    dsimp only
    rw [hl1, if_pos rfl, hl2, if_pos rfl]
    exact ⟨hu, hc, hu, hc, k3, trivial⟩
  rw [hcut]
  have tok0 : ∀ k : Nat, 5 ≤ k → k < 31 → tokOK k 0 := fun k a b => ⟨by omega, b, by decide, fun z => by omega, fun z => by omega, fun _ => rfl⟩
  have twk : ∀ k : Nat, 5 ≤ k → tw k 0 = wd k := fun k a => by
    unfold tw
    rw [if_neg (by omega), if_neg (by omega)]
  by_cases hg0_60 : g i = 60
  · have hg0 := hg0_60
    have hb0 : chAt f N i = nI 60 := b0.trans hg0
    by_cases hb1 : chAt f N (i + 1) = 61
    · refine Or.inl ⟨17, 0, 2, tok0 17 (by decide) (by decide), by decide, in2 (c := 61) (by decide) (by decide) hb1, by rw [twk 17 (by decide)]; exact Nat.le_refl _, k1 17 (by decide) (by decide) ((mt_2 (k := 17) rfl).mpr ⟨hb0, hb1⟩) (fun k' z1 z2 z => ?_), ?_⟩
      · omega
      · refine look2 _ _ (Or.inl hg0) ?_
        unfold s_Mo_compareSign
        dsimp only
        rw [hpk, nI_clamp (show i < 2 ^ 31 by omega), if_pos hg0, if_pos hb1]
        exact congrArg (fun z => (z, (20 : Int32))) (nI_add i 2)
    have hb1_61 := hb1
    clear hb1
    by_cases hb1 : chAt f N (i + 1) = 62
    · refine Or.inl ⟨19, 0, 2, tok0 19 (by decide) (by decide), by decide, in2 (c := 62) (by decide) (by decide) hb1, by rw [twk 19 (by decide)]; exact Nat.le_refl _, k1 19 (by decide) (by decide) ((mt_2 (k := 19) rfl).mpr ⟨hb0, hb1⟩) (fun k' z1 z2 z => ?_), ?_⟩
      · have hk : k' = 17 ∨ k' = 18 := by omega
        rcases hk with rfl | rfl
        · exact absurd (hb1.symm.trans ((mt_2 (k := 17) rfl).mp z).2) (by decide)
        · exact absurd (hb0.symm.trans ((mt_2 (k := 18) rfl).mp z).1) (by decide)
      · refine look2 _ _ (Or.inl hg0) ?_
        unfold s_Mo_compareSign
        dsimp only
        rw [hpk, nI_clamp (show i < 2 ^ 31 by omega), if_pos hg0, if_neg (by rw [hb1]; decide), if_pos hb1]
        exact congrArg (fun z => (z, (22 : Int32))) (nI_add i 2)
    have hb1_62 := hb1
    clear hb1
    · refine Or.inl ⟨20, 0, 1, tok0 20 (by decide) (by decide), by decide, by omega, by rw [twk 20 (by decide)]; exact Nat.le_refl _, k1 20 (by decide) (by decide) ((mt_1 (k := 20) rfl).mpr hb0) (fun k' z1 z2 z => ?_), ?_⟩
      · have hk : k' = 17 ∨ k' = 18 ∨ k' = 19 := by omega
        rcases hk with rfl | rfl | rfl
        · exact hb1_61 ((mt_2 (k := 17) rfl).mp z).2
        · exact absurd (hb0.symm.trans ((mt_2 (k := 18) rfl).mp z).1) (by decide)
        · exact hb1_62 ((mt_2 (k := 19) rfl).mp z).2
      · refine look2 _ _ (Or.inl hg0) ?_
        unfold s_Mo_compareSign
        dsimp only
        rw [hpk, nI_clamp (show i < 2 ^ 31 by omega), if_pos hg0, if_neg hb1_61, if_neg hb1_62]
        exact congrArg (fun z => (z, (18 : Int32))) (nI_1 i)
  by_cases hg0_62 : g i = 62
  · have hg0 := hg0_62
    have hb0 : chAt f N i = nI 62 := b0.trans hg0
    by_cases hb1 : chAt f N (i + 1) = 61
    · refine Or.inl ⟨18, 0, 2, tok0 18 (by decide) (by decide), by decide, in2 (c := 61) (by decide) (by decide) hb1, by rw [twk 18 (by decide)]; exact Nat.le_refl _, k1 18 (by decide) (by decide) ((mt_2 (k := 18) rfl).mpr ⟨hb0, hb1⟩) (fun k' z1 z2 z => ?_), ?_⟩
      · have hk : k' = 17 := by omega
        rcases hk with rfl
        · exact absurd (hb0.symm.trans ((mt_2 (k := 17) rfl).mp z).1) (by decide)
      · refine look2 _ _ (Or.inr hg0) ?_
        unfold s_Mo_compareSign
        dsimp only
        rw [hpk, nI_clamp (show i < 2 ^ 31 by omega), if_neg (by rw [hg0]; decide), if_pos hb1]
        exact congrArg (fun z => (z, (21 : Int32))) (nI_add i 2)
    have hb1_61 := hb1
    clear hb1
    · refine Or.inl ⟨21, 0, 1, tok0 21 (by decide) (by decide), by decide, by omega, by rw [twk 21 (by decide)]; exact Nat.le_refl _, k1 21 (by decide) (by decide) ((mt_1 (k := 21) rfl).mpr hb0) (fun k' z1 z2 z => ?_), ?_⟩
      · have hk : k' = 17 ∨ k' = 18 ∨ k' = 19 ∨ k' = 20 := by omega
        rcases hk with rfl | rfl | rfl | rfl
        · exact absurd (hb0.symm.trans ((mt_2 (k := 17) rfl).mp z).1) (by decide)
        · exact hb1_61 ((mt_2 (k := 18) rfl).mp z).2
        · exact absurd (hb0.symm.trans ((mt_2 (k := 19) rfl).mp z).1) (by decide)
        · exact absurd (hb0.symm.trans ((mt_1 (k := 20) rfl).mp z)) (by decide)
      · refine look2 _ _ (Or.inr hg0) ?_
        unfold s_Mo_compareSign
        dsimp only
        rw [hpk, nI_clamp (show i < 2 ^ 31 by omega), if_neg (by rw [hg0]; decide), if_neg hb1_61]
        exact congrArg (fun z => (z, (19 : Int32))) (nI_1 i)
  by_cases hg0_61 : g i = 61
  · have hg0 := hg0_61
    have hb0 : chAt f N i = nI 61 := b0.trans hg0
    · refine Or.inl ⟨22, 0, 1, tok0 22 (by decide) (by decide), by decide, by omega, by rw [twk 22 (by decide)]; exact Nat.le_refl _, k1 22 (by decide) (by decide) ((mt_1 (k := 22) rfl).mpr hb0) (fun k' z1 z2 z => ?_), ?_⟩
      · have hk : k' = 17 ∨ k' = 18 ∨ k' = 19 ∨ k' = 20 ∨ k' = 21 := by omega
        rcases hk with rfl | rfl | rfl | rfl | rfl
        · exact absurd (hb0.symm.trans ((mt_2 (k := 17) rfl).mp z).1) (by decide)
        · exact absurd (hb0.symm.trans ((mt_2 (k := 18) rfl).mp z).1) (by decide)
        · exact absurd (hb0.symm.trans ((mt_2 (k := 19) rfl).mp z).1) (by decide)
        · exact absurd (hb0.symm.trans ((mt_1 (k := 20) rfl).mp z)) (by decide)
        · exact absurd (hb0.symm.trans ((mt_1 (k := 21) rfl).mp z)) (by decide)
      · exact look1 _ (by rw [hg0]; decide) (by rw [hg0]; decide) (by rw [hg0]; decide)
  by_cases hg0_43 : g i = 43
  · have hg0 := hg0_43
    have hb0 : chAt f N i = nI 43 := b0.trans hg0
    · refine Or.inl ⟨23, 0, 1, tok0 23 (by decide) (by decide), by decide, by omega, by rw [twk 23 (by decide)]; exact Nat.le_refl _, k1 23 (by decide) (by decide) ((mt_1 (k := 23) rfl).mpr hb0) (fun k' z1 z2 z => ?_), ?_⟩
      · have hk : k' = 17 ∨ k' = 18 ∨ k' = 19 ∨ k' = 20 ∨ k' = 21 ∨ k' = 22 := by omega
        rcases hk with rfl | rfl | rfl | rfl | rfl | rfl
        · exact absurd (hb0.symm.trans ((mt_2 (k := 17) rfl).mp z).1) (by decide)
        · exact absurd (hb0.symm.trans ((mt_2 (k := 18) rfl).mp z).1) (by decide)
        · exact absurd (hb0.symm.trans ((mt_2 (k := 19) rfl).mp z).1) (by decide)
        · exact absurd (hb0.symm.trans ((mt_1 (k := 20) rfl).mp z)) (by decide)
        · exact absurd (hb0.symm.trans ((mt_1 (k := 21) rfl).mp z)) (by decide)
        · exact absurd (hb0.symm.trans ((mt_1 (k := 22) rfl).mp z)) (by decide)
      · exact look1 _ (by rw [hg0]; decide) (by rw [hg0]; decide) (by rw [hg0]; decide)
  by_cases hg0_45 : g i = 45
  · have hg0 := hg0_45
    have hb0 : chAt f N i = nI 45 := b0.trans hg0
    · refine Or.inl ⟨24, 0, 1, tok0 24 (by decide) (by decide), by decide, by omega, by rw [twk 24 (by decide)]; exact Nat.le_refl _, k1 24 (by decide) (by decide) ((mt_1 (k := 24) rfl).mpr hb0) (fun k' z1 z2 z => ?_), ?_⟩
      · have hk : k' = 17 ∨ k' = 18 ∨ k' = 19 ∨ k' = 20 ∨ k' = 21 ∨ k' = 22 ∨ k' = 23 := by omega
        rcases hk with rfl | rfl | rfl | rfl | rfl | rfl | rfl
        · exact absurd (hb0.symm.trans ((mt_2 (k := 17) rfl).mp z).1) (by decide)
        · exact absurd (hb0.symm.trans ((mt_2 (k := 18) rfl).mp z).1) (by decide)
        · exact absurd (hb0.symm.trans ((mt_2 (k := 19) rfl).mp z).1) (by decide)
        · exact absurd (hb0.symm.trans ((mt_1 (k := 20) rfl).mp z)) (by decide)
        · exact absurd (hb0.symm.trans ((mt_1 (k := 21) rfl).mp z)) (by decide)
        · exact absurd (hb0.symm.trans ((mt_1 (k := 22) rfl).mp z)) (by decide)
        · exact absurd (hb0.symm.trans ((mt_1 (k := 23) rfl).mp z)) (by decide)
      · exact look1 _ (by rw [hg0]; decide) (by rw [hg0]; decide) (by rw [hg0]; decide)
  by_cases hg0_42 : g i = 42
  · have hg0 := hg0_42
    have hb0 : chAt f N i = nI 42 := b0.trans hg0
    · refine Or.inl ⟨25, 0, 1, tok0 25 (by decide) (by decide), by decide, by omega, by rw [twk 25 (by decide)]; exact Nat.le_refl _, k1 25 (by decide) (by decide) ((mt_1 (k := 25) rfl).mpr hb0) (fun k' z1 z2 z => ?_), ?_⟩
      · have hk : k' = 17 ∨ k' = 18 ∨ k' = 19 ∨ k' = 20 ∨ k' = 21 ∨ k' = 22 ∨ k' = 23 ∨ k' = 24 := by omega
        rcases hk with rfl | rfl | rfl | rfl | rfl | rfl | rfl | rfl
        · exact absurd (hb0.symm.trans ((mt_2 (k := 17) rfl).mp z).1) (by decide)
        · exact absurd (hb0.symm.trans ((mt_2 (k := 18) rfl).mp z).1) (by decide)
        · exact absurd (hb0.symm.trans ((mt_2 (k := 19) rfl).mp z).1) (by decide)
        · exact absurd (hb0.symm.trans ((mt_1 (k := 20) rfl).mp z)) (by decide)
        · exact absurd (hb0.symm.trans ((mt_1 (k := 21) rfl).mp z)) (by decide)
        · exact absurd (hb0.symm.trans ((mt_1 (k := 22) rfl).mp z)) (by decide)
        · exact absurd (hb0.symm.trans ((mt_1 (k := 23) rfl).mp z)) (by decide)
        · exact absurd (hb0.symm.trans ((mt_1 (k := 24) rfl).mp z)) (by decide)
      · exact look1 _ (by rw [hg0]; decide) (by rw [hg0]; decide) (by rw [hg0]; decide)
  by_cases hg0_59 : g i = 59
  · have hg0 := hg0_59
    have hb0 : chAt f N i = nI 59 := b0.trans hg0
    · refine Or.inl ⟨26, 0, 1, tok0 26 (by decide) (by decide), by decide, by omega, by rw [twk 26 (by decide)]; exact Nat.le_refl _, k1 26 (by decide) (by decide) ((mt_1 (k := 26) rfl).mpr hb0) (fun k' z1 z2 z => ?_), ?_⟩
      · have hk : k' = 17 ∨ k' = 18 ∨ k' = 19 ∨ k' = 20 ∨ k' = 21 ∨ k' = 22 ∨ k' = 23 ∨ k' = 24 ∨ k' = 25 := by omega
        rcases hk with rfl | rfl | rfl | rfl | rfl | rfl | rfl | rfl | rfl
        · exact absurd (hb0.symm.trans ((mt_2 (k := 17) rfl).mp z).1) (by decide)
        · exact absurd (hb0.symm.trans ((mt_2 (k := 18) rfl).mp z).1) (by decide)
        · exact absurd (hb0.symm.trans ((mt_2 (k := 19) rfl).mp z).1) (by decide)
        · exact absurd (hb0.symm.trans ((mt_1 (k := 20) rfl).mp z)) (by decide)
        · exact absurd (hb0.symm.trans ((mt_1 (k := 21) rfl).mp z)) (by decide)
        · exact absurd (hb0.symm.trans ((mt_1 (k := 22) rfl).mp z)) (by decide)
        · exact absurd (hb0.symm.trans ((mt_1 (k := 23) rfl).mp z)) (by decide)
        · exact absurd (hb0.symm.trans ((mt_1 (k := 24) rfl).mp z)) (by decide)
        · exact absurd (hb0.symm.trans ((mt_1 (k := 25) rfl).mp z)) (by decide)
      · exact look1 _ (by rw [hg0]; decide) (by rw [hg0]; decide) (by rw [hg0]; decide)
  by_cases hg0_40 : g i = 40
  · have hg0 := hg0_40
    have hb0 : chAt f N i = nI 40 := b0.trans hg0
    · refine Or.inl ⟨27, 0, 1, tok0 27 (by decide) (by decide), by decide, by omega, by rw [twk 27 (by decide)]; exact Nat.le_refl _, k1 27 (by decide) (by decide) ((mt_1 (k := 27) rfl).mpr hb0) (fun k' z1 z2 z => ?_), ?_⟩
      · have hk : k' = 17 ∨ k' = 18 ∨ k' = 19 ∨ k' = 20 ∨ k' = 21 ∨ k' = 22 ∨ k' = 23 ∨ k' = 24 ∨ k' = 25 ∨ k' = 26 := by omega
        rcases hk with rfl | rfl | rfl | rfl | rfl | rfl | rfl | rfl | rfl | rfl
        · exact absurd (hb0.symm.trans ((mt_2 (k := 17) rfl).mp z).1) (by decide)
        · exact absurd (hb0.symm.trans ((mt_2 (k := 18) rfl).mp z).1) (by decide)
        · exact absurd (hb0.symm.trans ((mt_2 (k := 19) rfl).mp z).1) (by decide)
        · exact absurd (hb0.symm.trans ((mt_1 (k := 20) rfl).mp z)) (by decide)
        · exact absurd (hb0.symm.trans ((mt_1 (k := 21) rfl).mp z)) (by decide)
        · exact absurd (hb0.symm.trans ((mt_1 (k := 22) rfl).mp z)) (by decide)
        · exact absurd (hb0.symm.trans ((mt_1 (k := 23) rfl).mp z)) (by decide)
        · exact absurd (hb0.symm.trans ((mt_1 (k := 24) rfl).mp z)) (by decide)
        · exact absurd (hb0.symm.trans ((mt_1 (k := 25) rfl).mp z)) (by decide)
        · exact absurd (hb0.symm.trans ((mt_1 (k := 26) rfl).mp z)) (by decide)
      · exact look1 _ (by rw [hg0]; decide) (by rw [hg0]; decide) (by rw [hg0]; decide)
  by_cases hg0_41 : g i = 41
  · have hg0 := hg0_41
    have hb0 : chAt f N i = nI 41 := b0.trans hg0
    · refine Or.inl ⟨28, 0, 1, tok0 28 (by decide) (by decide), by decide, by omega, by rw [twk 28 (by decide)]; exact Nat.le_refl _, k1 28 (by decide) (by decide) ((mt_1 (k := 28) rfl).mpr hb0) (fun k' z1 z2 z => ?_), ?_⟩
      · have hk : k' = 17 ∨ k' = 18 ∨ k' = 19 ∨ k' = 20 ∨ k' = 21 ∨ k' = 22 ∨ k' = 23 ∨ k' = 24 ∨ k' = 25 ∨ k' = 26 ∨ k' = 27 := by omega
        rcases hk with rfl | rfl | rfl | rfl | rfl | rfl | rfl | rfl | rfl | rfl | rfl
        · exact absurd (hb0.symm.trans ((mt_2 (k := 17) rfl).mp z).1) (by decide)
        · exact absurd (hb0.symm.trans ((mt_2 (k := 18) rfl).mp z).1) (by decide)
        · exact absurd (hb0.symm.trans ((mt_2 (k := 19) rfl).mp z).1) (by decide)
        · exact absurd (hb0.symm.trans ((mt_1 (k := 20) rfl).mp z)) (by decide)
        · exact absurd (hb0.symm.trans ((mt_1 (k := 21) rfl).mp z)) (by decide)
        · exact absurd (hb0.symm.trans ((mt_1 (k := 22) rfl).mp z)) (by decide)
        · exact absurd (hb0.symm.trans ((mt_1 (k := 23) rfl).mp z)) (by decide)
        · exact absurd (hb0.symm.trans ((mt_1 (k := 24) rfl).mp z)) (by decide)
        · exact absurd (hb0.symm.trans ((mt_1 (k := 25) rfl).mp z)) (by decide)
        · exact absurd (hb0.symm.trans ((mt_1 (k := 26) rfl).mp z)) (by decide)
        · exact absurd (hb0.symm.trans ((mt_1 (k := 27) rfl).mp z)) (by decide)
      · exact look1 _ (by rw [hg0]; decide) (by rw [hg0]; decide) (by rw [hg0]; decide)
  by_cases hg0_91 : g i = 91
  · have hg0 := hg0_91
    have hb0 : chAt f N i = nI 91 := b0.trans hg0
    · refine Or.inl ⟨29, 0, 1, tok0 29 (by decide) (by decide), by decide, by omega, by rw [twk 29 (by decide)]; exact Nat.le_refl _, k1 29 (by decide) (by decide) ((mt_1 (k := 29) rfl).mpr hb0) (fun k' z1 z2 z => ?_), ?_⟩
      · have hk : k' = 17 ∨ k' = 18 ∨ k' = 19 ∨ k' = 20 ∨ k' = 21 ∨ k' = 22 ∨ k' = 23 ∨ k' = 24 ∨ k' = 25 ∨ k' = 26 ∨ k' = 27 ∨ k' = 28 := by omega
        rcases hk with rfl | rfl | rfl | rfl | rfl | rfl | rfl | rfl | rfl | rfl | rfl | rfl
        · exact absurd (hb0.symm.trans ((mt_2 (k := 17) rfl).mp z).1) (by decide)
        · exact absurd (hb0.symm.trans ((mt_2 (k := 18) rfl).mp z).1) (by decide)
        · exact absurd (hb0.symm.trans ((mt_2 (k := 19) rfl).mp z).1) (by decide)
        · exact absurd (hb0.symm.trans ((mt_1 (k := 20) rfl).mp z)) (by decide)
        · exact absurd (hb0.symm.trans ((mt_1 (k := 21) rfl).mp z)) (by decide)
        · exact absurd (hb0.symm.trans ((mt_1 (k := 22) rfl).mp z)) (by decide)
        · exact absurd (hb0.symm.trans ((mt_1 (k := 23) rfl).mp z)) (by decide)
        · exact absurd (hb0.symm.trans ((mt_1 (k := 24) rfl).mp z)) (by decide)
        · exact absurd (hb0.symm.trans ((mt_1 (k := 25) rfl).mp z)) (by decide)
        · exact absurd (hb0.symm.trans ((mt_1 (k := 26) rfl).mp z)) (by decide)
        · exact absurd (hb0.symm.trans ((mt_1 (k := 27) rfl).mp z)) (by decide)
        · exact absurd (hb0.symm.trans ((mt_1 (k := 28) rfl).mp z)) (by decide)
      · exact look1 _ (by rw [hg0]; decide) (by rw [hg0]; decide) (by rw [hg0]; decide)
  by_cases hg0_93 : g i = 93
  · have hg0 := hg0_93
    have hb0 : chAt f N i = nI 93 := b0.trans hg0
    · refine Or.inl ⟨30, 0, 1, tok0 30 (by decide) (by decide), by decide, by omega, by rw [twk 30 (by decide)]; exact Nat.le_refl _, k1 30 (by decide) (by decide) ((mt_1 (k := 30) rfl).mpr hb0) (fun k' z1 z2 z => ?_), ?_⟩
      · have hk : k' = 17 ∨ k' = 18 ∨ k' = 19 ∨ k' = 20 ∨ k' = 21 ∨ k' = 22 ∨ k' = 23 ∨ k' = 24 ∨ k' = 25 ∨ k' = 26 ∨ k' = 27 ∨ k' = 28 ∨ k' = 29 := by omega
        rcases hk with rfl | rfl | rfl | rfl | rfl | rfl | rfl | rfl | rfl | rfl | rfl | rfl | rfl
        · exact absurd (hb0.symm.trans ((mt_2 (k := 17) rfl).mp z).1) (by decide)
        · exact absurd (hb0.symm.trans ((mt_2 (k := 18) rfl).mp z).1) (by decide)
        · exact absurd (hb0.symm.trans ((mt_2 (k := 19) rfl).mp z).1) (by decide)
        · exact absurd (hb0.symm.trans ((mt_1 (k := 20) rfl).mp z)) (by decide)
        · exact absurd (hb0.symm.trans ((mt_1 (k := 21) rfl).mp z)) (by decide)
        · exact absurd (hb0.symm.trans ((mt_1 (k := 22) rfl).mp z)) (by decide)
        · exact absurd (hb0.symm.trans ((mt_1 (k := 23) rfl).mp z)) (by decide)
        · exact absurd (hb0.symm.trans ((mt_1 (k := 24) rfl).mp z)) (by decide)
        · exact absurd (hb0.symm.trans ((mt_1 (k := 25) rfl).mp z)) (by decide)
        · exact absurd (hb0.symm.trans ((mt_1 (k := 26) rfl).mp z)) (by decide)
        · exact absurd (hb0.symm.trans ((mt_1 (k := 27) rfl).mp z)) (by decide)
        · exact absurd (hb0.symm.trans ((mt_1 (k := 28) rfl).mp z)) (by decide)
        · exact absurd (hb0.symm.trans ((mt_1 (k := 29) rfl).mp z)) (by decide)
      · exact look1 _ (by rw [hg0]; decide) (by rw [hg0]; decide) (by rw [hg0]; decide)
  refine Or.inr ⟨k2 (fun k' z1 z2 z => ?_), _, _, look1 31 hg0_60 hg0_62 ?_⟩
  · have hk : k' = 17 ∨ k' = 18 ∨ k' = 19 ∨ k' = 20 ∨ k' = 21 ∨ k' = 22 ∨ k' = 23 ∨ k' = 24 ∨ k' = 25 ∨ k' = 26 ∨ k' = 27 ∨ k' = 28 ∨ k' = 29 ∨ k' = 30 := by omega
    rcases hk with rfl | rfl | rfl | rfl | rfl | rfl | rfl | rfl | rfl | rfl | rfl | rfl | rfl | rfl
    · exact hg0_60 (b0.symm.trans ((mt_2 (k := 17) rfl).mp z).1)
    · exact hg0_62 (b0.symm.trans ((mt_2 (k := 18) rfl).mp z).1)
    · exact hg0_60 (b0.symm.trans ((mt_2 (k := 19) rfl).mp z).1)
    · exact hg0_60 (b0.symm.trans ((mt_1 (k := 20) rfl).mp z))
    · exact hg0_62 (b0.symm.trans ((mt_1 (k := 21) rfl).mp z))
    · exact hg0_61 (b0.symm.trans ((mt_1 (k := 22) rfl).mp z))
    · exact hg0_43 (b0.symm.trans ((mt_1 (k := 23) rfl).mp z))
    · exact hg0_45 (b0.symm.trans ((mt_1 (k := 24) rfl).mp z))
    · exact hg0_42 (b0.symm.trans ((mt_1 (k := 25) rfl).mp z))
    · exact hg0_59 (b0.symm.trans ((mt_1 (k := 26) rfl).mp z))
    · exact hg0_40 (b0.symm.trans ((mt_1 (k := 27) rfl).mp z))
    · exact hg0_41 (b0.symm.trans ((mt_1 (k := 28) rfl).mp z))
    · exact hg0_91 (b0.symm.trans ((mt_1 (k := 29) rfl).mp z))
    · exact hg0_93 (b0.symm.trans ((mt_1 (k := 30) rfl).mp z))
  · unfold s_Mo_signKind
    rw [if_neg hg0_59, if_neg hg0_61, if_neg hg0_43, if_neg hg0_45, if_neg hg0_42, if_neg hg0_40, if_neg hg0_41, if_neg hg0_91, if_neg hg0_93]
theorem lex_one (hN : N ≤ 2000) (hi : i < N) (hw : w ≤ 2000) (hc : chF f) (hfg : ∀ j, j < N → f j = g j) (hsp : ¬ f i = 32) : OneR f g K V P N i w := by
  by_cases h1 : s_Mo_isSmall (f i) = 0
  · by_cases h2 : s_Mo_isDigit (f i) = 0
    · exact one_sign hN hi hw hc hfg h1 h2 hsp
    · exact one_num hN hi hw hc hfg h1 h2 hsp
  · exact one_word hN hi hw hc hfg h1 hsp
end ONE
