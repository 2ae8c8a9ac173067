/-! words and signs -/
theorem spells_lp {f : Nat → Int32} {N i j : Nat} {C : List Nat} (hN : N ≤ 2000) (hi : i ≤ 2000) (hc : chF f) (hl : lenS.getD j 0 = C.length) (h8 : C.length ≤ 7) (hC : ∀ q, q < C.length → s_Str_charAt j (nI q) = nI (C.getD q 0) ∧ C.getD q 0 < 256) : ∀ (r p b : Nat), p + r = C.length →
    ((∀ q, p ≤ q → q < C.length → chAt f N (i + q) = nI (C.getD q 0)) → lp_Text_spells_2 f (nI N) j (nI i) (r + 1 + b) (nI p) = 1) ∧
    (¬ (∀ q, p ≤ q → q < C.length → chAt f N (i + q) = nI (C.getD q 0)) → lp_Text_spells_2 f (nI N) j (nI i) (r + 1 + b) (nI p) = 0) ∧ oklp_Text_spells_2 f (nI N) j (nI i) (r + 1 + b) (nI p) := by
  have hL : s_Str_length j = nI C.length := by
    unfold s_Str_length
    rw [hl]
    exact sc_shr0 (by omega)
  have hu : up (nI N) 2000 := up_of hN (by decide)
  intro r
  induction r with
  | zero =>
    intro p b h
    rw [show 0 + 1 + b = b + 1 from by omega, lp_Text_spells_2, oklp_Text_spells_2]
    dsimp only
    rw [hL, if_pos (nI_le (by omega) (by omega)), if_pos (nI_le (by omega) (by omega))]
    exact ⟨fun _ => rfl, fun q => absurd (fun x h1 h2 => absurd h2 (by omega)) q, trivial⟩
  | succ r ih =>
    intro p b h
    have hlt : ¬ nI C.length ≤ nI p := nI_ge (by omega) (by omega)
    obtain ⟨a1, a2, a3⟩ := ih (p + 1) b (by omega)
    have hv : vp_in (nI p) (lenS.getD j 0) := by
      rw [hl]
      exact vp_in_nI (by omega) (by omega)
    rw [show r + 1 + 1 + b = (r + 1 + b) + 1 from by omega, lp_Text_spells_2, oklp_Text_spells_2]
    dsimp only
    rw [hL, if_neg hlt, if_neg hlt, (hC p (by omega)).1, nI_add, at_ch hN (by omega), nI_1]
    by_cases c : chAt f N (i + p) = nI (C.getD p 0)
    · rw [if_pos c, if_pos c]
      refine ⟨fun q => a1 (fun x h1 h2 => q x (by omega) h2), fun q => a2 (fun z => q (fun x h1 h2 => ?_)), hu, hc, hv, a3⟩
      by_cases d : x = p
      · rw [d]
        exact c
      · exact z x (by omega) h2
    · rw [if_neg c, if_neg c]
      exact ⟨fun q => absurd (q p (Nat.le_refl _) (by omega)) c, fun _ => rfl, hu, hc, hv, trivial⟩
/-- the text spells k at i -/
def Mt (f : Nat → Int32) (N i k : Nat) : Prop := ∀ q, q < (wd k).length → chAt f N (i + q) = nI ((wd k).getD q 0)
theorem spells_k {f : Nat → Int32} {N i k : Nat} (hN : N ≤ 2000) (hi : i ≤ 2000) (hc : chF f) (h5 : 5 ≤ k) (hk : k < 31) : (Mt f N i k → lp_Text_spells_2 f (nI N) (s_Tok_spelling (nI k)) (nI i) 8 (0 : Int32) = 1) ∧ (¬ Mt f N i k → lp_Text_spells_2 f (nI N) (s_Tok_spelling (nI k)) (nI i) 8 (0 : Int32) = 0) ∧ ok_Text_spells f (nI N) (s_Tok_spelling (nI k)) (nI i) := by
  obtain ⟨a1, a2, a3, a4⟩ := wd_tab k hk h5
  obtain ⟨b1, b2, b3⟩ := spells_lp (f := f) (N := N) (i := i) hN hi hc a1 (by omega) a4 (wd k).length 0 (7 - (wd k).length) (by omega)
  rw [show (wd k).length + 1 + (7 - (wd k).length) = 8 from by omega] at b1 b2 b3
  exact ⟨fun q => b1 (fun x _ h2 => q x h2), fun q => b2 (fun z => q (fun x h2 => z x (Nat.zero_le _) h2)), b3⟩
theorem len_k {k : Nat} (h5 : 5 ≤ k) (hk : k < 31) : s_Str_length (s_Tok_spelling (nI k)) = nI (wd k).length := by
  obtain ⟨a1, a2, a3, a4⟩ := wd_tab k hk h5
  unfold s_Str_length
  rw [a1]
  exact sc_shr0 (by omega)
theorem cs_lp {f K V P : Nat → Int32} {N i w : Nat} (hN : N ≤ 2000) (hi : i ≤ 2000) (hc : chF f) (hw : w ≤ 2000) : ∀ (r k b : Nat), k + r = 31 → 17 ≤ k →
    (∀ k0, k ≤ k0 → k0 < 31 → Mt f N i k0 → (∀ k', k ≤ k' → k' < k0 → ¬ Mt f N i k') → lp_Tok_cutSign_3 K V P (nI w) f (nI N) (nI i) (r + 1 + b) (nI k) = (nI (wd k0).length, upd K w (nI k0), upd V w 0, upd P w (nI i))) ∧
    ((∀ k', k ≤ k' → k' < 31 → ¬ Mt f N i k') → lp_Tok_cutSign_3 K V P (nI w) f (nI N) (nI i) (r + 1 + b) (nI k) = (0, K, V, P)) ∧ oklp_Tok_cutSign_3 K V P (nI w) f (nI N) (nI i) (r + 1 + b) (nI k) := by
  have hu2 : up (nI w) 2001 := up_of (by omega) (by decide)
  intro r
  induction r with
  | zero =>
    intro k b h h17
    rw [show 0 + 1 + b = b + 1 from by omega, lp_Tok_cutSign_3, oklp_Tok_cutSign_3, if_pos (ltL (N := 30) (a := 30) rfl (by omega) (by omega)), if_pos (ltL (N := 30) (a := 30) rfl (by omega) (by omega))]
    exact ⟨fun k0 h1 h2 => absurd h2 (by omega), fun _ => rfl, trivial⟩
  | succ r ih =>
    intro k b h h17
    have hlt : ¬ (30 : Int32) < nI k := nltL (N := 30) (a := 30) (b := k) rfl (by omega) (by decide)
    obtain ⟨s1, s2, s3⟩ := spells_k (f := f) (N := N) (i := i) hN hi hc (show 5 ≤ k by omega) (show k < 31 by omega)
    obtain ⟨a1, a2, a3⟩ := ih (k + 1) b (by omega) (by omega)
    rw [show r + 1 + 1 + b = (r + 1 + b) + 1 from by omega, lp_Tok_cutSign_3, oklp_Tok_cutSign_3, if_neg hlt, if_neg hlt]
    dsimp only
    by_cases c : Mt f N i k
    · rw [s1 c, if_neg (by decide), if_neg (by decide), put_nI hw, len_k (by omega) (by omega)]
      refine ⟨fun k0 h1 h2 h3 h4 => ?_, fun q => absurd c (q k (Nat.le_refl _) (by omega)), s3, hu2, trivial⟩
      by_cases d : k0 = k
      · rw [d]
      · exact absurd c (h4 k (Nat.le_refl _) (by omega))
    · rw [s2 c, if_pos rfl, if_pos rfl, nI_1]
      refine ⟨fun k0 h1 h2 h3 h4 => ?_, fun q => a2 (fun k' h1 h2 => q k' (by omega) h2), s3, a3⟩
      by_cases d : k0 = k
      · rw [d] at h3
        exact absurd h3 c
      · exact a1 k0 (by omega) h2 h3 (fun k' h5 h6 => h4 k' (by omega) h6)
/-- the text's word of length l at i is k -/
def Mw (f : Nat → Int32) (N i l k : Nat) : Prop := (wd k).length = l ∧ Mt f N i k
theorem ck_lp {f K V P : Nat → Int32} {N i w l : Nat} (hN : N ≤ 2000) (hi : i ≤ 2000) (hc : chF f) (hw : w ≤ 2000) (hl : l ≤ 2000) : ∀ (r k b : Nat), k + r = 17 → 5 ≤ k →
    (∀ k0, k ≤ k0 → k0 < 17 → Mw f N i l k0 → (∀ k', k ≤ k' → k' < k0 → ¬ Mw f N i l k') → lp_Tok_cutWord_64 K V P (nI w) f (nI N) (nI i) (r + 1 + b) (nI l) (nI k) = (nI l, upd K w (nI k0), upd V w 0, upd P w (nI i))) ∧
    ((∀ k', k ≤ k' → k' < 17 → ¬ Mw f N i l k') → lp_Tok_cutWord_64 K V P (nI w) f (nI N) (nI i) (r + 1 + b) (nI l) (nI k) = (0, K, V, P)) ∧ oklp_Tok_cutWord_64 K V P (nI w) f (nI N) (nI i) (r + 1 + b) (nI l) (nI k) := by
  have hu2 : up (nI w) 2001 := up_of (by omega) (by decide)
  intro r
  induction r with
  | zero =>
    intro k b h h17
    rw [show 0 + 1 + b = b + 1 from by omega, lp_Tok_cutWord_64, oklp_Tok_cutWord_64, if_pos (ltL (N := 16) (a := 16) rfl (by omega) (by omega)), if_pos (ltL (N := 16) (a := 16) rfl (by omega) (by omega))]
    exact ⟨fun k0 h1 h2 => absurd h2 (by omega), fun _ => rfl, trivial⟩
  | succ r ih =>
    intro k b h h17
    have hlt : ¬ (16 : Int32) < nI k := nltL (N := 16) (a := 16) (b := k) rfl (by omega) (by decide)
    obtain ⟨s1, s2, s3⟩ := spells_k (f := f) (N := N) (i := i) hN hi hc (show 5 ≤ k by omega) (show k < 31 by omega)
    obtain ⟨a1, a2, a3⟩ := ih (k + 1) b (by omega) (by omega)
    have go : ¬ Mw f N i l k → (∀ k0, k ≤ k0 → k0 < 17 → Mw f N i l k0 → (∀ k', k ≤ k' → k' < k0 → ¬ Mw f N i l k') → lp_Tok_cutWord_64 K V P (nI w) f (nI N) (nI i) (r + 1 + b) (nI l) (nI (k + 1)) = (nI l, upd K w (nI k0), upd V w 0, upd P w (nI i))) ∧
        ((∀ k', k ≤ k' → k' < 17 → ¬ Mw f N i l k') → lp_Tok_cutWord_64 K V P (nI w) f (nI N) (nI i) (r + 1 + b) (nI l) (nI (k + 1)) = (0, K, V, P)) := fun c => by
      refine ⟨fun k0 h1 h2 h3 h4 => ?_, fun q => a2 (fun k' h1 h2 => q k' (by omega) h2)⟩
      by_cases d : k0 = k
      · rw [d] at h3
        exact absurd h3 c
      · exact a1 k0 (by omega) h2 h3 (fun k' h5 h6 => h4 k' (by omega) h6)
    have hw5 := (wd_tab k (by omega) (by omega)).2.1
    rw [show r + 1 + 1 + b = (r + 1 + b) + 1 from by omega, lp_Tok_cutWord_64, oklp_Tok_cutWord_64, if_neg hlt, if_neg hlt]
    dsimp only
    rw [len_k (by omega) (by omega), nI_1]
    by_cases cl : (wd k).length = l
    · have cl' : nI (wd k).length = nI l := by rw [cl]
      rw [if_pos cl', if_pos cl']
      by_cases c : Mt f N i k
      · rw [s1 c, if_neg (by decide), if_neg (by decide), put_nI hw]
        refine ⟨fun k0 h1 h2 h3 h4 => ?_, fun q => absurd ⟨cl, c⟩ (q k (Nat.le_refl _) (by omega)), s3, hu2, trivial⟩
        by_cases d : k0 = k
        · rw [d]
        · exact absurd ⟨cl, c⟩ (h4 k (Nat.le_refl _) (by omega))
      · rw [s2 c, if_pos rfl, if_pos rfl]
        obtain ⟨g1, g2⟩ := go (fun q => c q.2)
        exact ⟨g1, g2, s3, a3⟩
    · have cl' : ¬ nI (wd k).length = nI l := ne_nI (by omega) (by omega) cl
      rw [if_neg cl', if_neg cl']
      obtain ⟨g1, g2⟩ := go (fun q => cl q.1)
      exact ⟨g1, g2, a3⟩
/-! the reference's word -/
def ltr (c : Int32) : Nat := c.toNatClampNeg - 96
theorem ltr_nI {c : Int32} (h : ¬ s_Mo_isSmall c = 0) : 1 ≤ ltr c ∧ ltr c ≤ 26 ∧ c = nI (96 + ltr c) := by
  unfold s_Mo_isSmall at h
  split at h
  · exact absurd rfl h
  · rename_i h1
    split at h
    · exact absurd rfl h
    · rename_i h2
      rw [Int32.lt_iff_toInt_lt, show (97 : Int32).toInt = 97 by decide] at h1
      rw [Int32.lt_iff_toInt_lt, show (122 : Int32).toInt = 122 by decide] at h2
      obtain ⟨n, hn, hn2, rfl⟩ := up_nI (v := c) (N := 122) ⟨by omega, by omega⟩
      rw [nI_toInt hn2] at h1
      unfold ltr
      rw [nI_clamp hn2]
      exact ⟨by omega, by omega, by rw [show 96 + (n - 96) = n from by omega]⟩
def hv (g : Nat → Int32) (i : Nat) : Nat → Nat
  | 0 => 0
  | l + 1 => 32 * hv g i l + ltr (g (i + l))
theorem hv_b {g : Nat → Int32} {i : Nat} : ∀ l, (∀ j, i ≤ j → j < i + l → ltr (g j) ≤ 26) → hv g i l < 32 ^ l := by
  intro l
  induction l with
  | zero => intro _; exact Nat.one_pos
  | succ l ih =>
    intro h
    have h1 := ih (fun j j1 j2 => h j j1 (by omega))
    have h2 := h (i + l) (by omega) (by omega)
    show 32 * hv g i l + ltr (g (i + l)) < 32 ^ (l + 1)
    rw [Nat.pow_succ]
    omega
theorem wa_lp {g : Nat → Int32} {i e : Nat} (he : e ≤ 2000) (h5 : e - i ≤ 5) (hl : ∀ j, i ≤ j → j < e → ¬ s_Mo_isSmall (g j) = 0) : ∀ (r l b : Nat), i + l + r = e → lp_Mo_wordAt_5 g (nI i) (nI e) (r + 1 + b) (nI (hv g i l)) (nI (i + l)) = nI (hv g i (e - i)) := by
  intro r
  induction r with
  | zero =>
    intro l b h
    rw [show 0 + 1 + b = b + 1 from by omega, lp_Mo_wordAt_5, if_pos (nI_le (by omega) (by omega)), show e - i = l from by omega]
  | succ r ih =>
    intro l b h
    obtain ⟨x1, x2, x3⟩ := ltr_nI (hl (i + l) (by omega) (by omega))
    have hn : hv g i (l + 1) = 32 * hv g i l + ltr (g (i + l)) := rfl
    have hm1 := hv_b (g := g) (i := i) l (fun j j1 j2 => (ltr_nI (hl j j1 (by omega))).2.1)
    have hm2 : 32 ^ l ≤ 32 ^ 4 := Nat.pow_le_pow_right (by decide) (by omega)
    have hm3 : (32 : Nat) ^ 4 = 1048576 := by decide
    have ev : ((32 * nI (hv g i l) + g (i + l)) - 97) + 1 = nI (hv g i (l + 1)) := by
      rw [hn]
      generalize ltr (g (i + l)) = y at x1 x2 x3 ⊢
      rw [x3, show (32 : Int32) * nI (hv g i l) = nI (32 * hv g i l) from pk_mul 32 _, nI_add, show nI (32 * hv g i l + (96 + y)) - 97 = nI (32 * hv g i l + (96 + y) - 97) from pk_sub (b := 97) (by omega), nI_1]
      congr 1
      omega
    have h5' : ¬ (5 : Int32) < nI e - nI i := by
      rw [pk_sub (by omega)]
      exact nltL (N := 5) (a := 5) (b := e - i) rfl h5 (by decide)
    rw [show r + 1 + 1 + b = (r + 1 + b) + 1 from by omega, lp_Mo_wordAt_5, if_neg (nI_ge (by omega) (by omega)), if_neg h5', nI_clamp (by omega), ev, nI_1]
    exact ih (l + 1) b (by omega)
theorem mt_char {f : Nat → Int32} {N i k q c : Nat} (h : Mt f N i k) (hq : q < (wd k).length) (hc : (wd k).getD q 0 = c) (hN : i + q < N) : f (i + q) = nI c := by
  have := h q hq
  rw [chAt_in hN, hc] at this
  exact this
theorem w_consts : s_Mo_wordOf 108 101 116 0 0 = nI 12468 ∧ s_Mo_wordOf 99 111 117 110 116 = nI 3659220 ∧ s_Mo_wordOf 115 117 109 0 0 = nI 20141 ∧ s_Mo_wordOf 98 105 110 115 0 = nI 75219 ∧ s_Mo_wordOf 119 104 101 114 101 = nI 24385093 ∧ s_Mo_wordOf 105 110 0 0 0 = nI 302 ∧ s_Mo_wordOf 116 111 0 0 0 = nI 655 ∧ s_Mo_wordOf 98 121 0 0 0 = nI 89 ∧ s_Mo_wordOf 102 114 111 109 0 = nI 215533 ∧ s_Mo_wordOf 110 111 116 0 0 = nI 14836 ∧ s_Mo_wordOf 97 110 100 0 0 = nI 1476 ∧ s_Mo_wordOf 111 114 0 0 0 = nI 498 := by decide +kernel
/-- what the reference makes of a word, from its number -/
def wk (x : Nat) : Int32 := if x = 12468 then 1 else if x = 3659220 then 2 else if x = 20141 then 3 else if x = 75219 then 4 else if x = 24385093 then 5 else if x = 302 then 6 else if x = 655 then 7 else if x = 89 then 8 else if x = 215533 then 9 else if x = 14836 then 10 else if x = 1476 then 11 else if x = 498 then 12 else 31
theorem cls_wk {g : Nat → Int32} {i e : Nat} (he : e ≤ 2000) (h2 : 2 ≤ e - i) (h5 : e - i ≤ 5) (hl : ∀ j, i ≤ j → j < e → ¬ s_Mo_isSmall (g j) = 0) : s_Mo_classify g 0 (nI i) (nI e) = (wk (hv g i (e - i)), 0) := by
  have hw := wa_lp he h5 hl (e - i) 0 0 (by omega)
  have hw' : lp_Mo_wordAt_5 g (nI i) (nI e) (((nI e).toInt - (nI i).toInt).toNat + 1) (0 : Int32) (nI i) = nI (hv g i (e - i)) := by
    rw [nI_toInt (by omega), nI_toInt (by omega), show ((e : Int) - (i : Int)).toNat + 1 = e - i + 1 + 0 from by omega]
    exact hw
  have hm1 := hv_b (g := g) (i := i) (e - i) (fun j j1 j2 => (ltr_nI (hl j j1 (by omega))).2.1)
  have hm2 : 32 ^ (e - i) ≤ 32 ^ 5 := Nat.pow_le_pow_right (by decide) (by omega)
  have hm3 : (32 : Nat) ^ 5 = 33554432 := by decide
  have hp : 0 < hv g i (e - i) := by
    obtain ⟨m, hm⟩ : ∃ m, e - i = m + 1 := ⟨e - i - 1, by omega⟩
    rw [hm]
    show 0 < 32 * hv g i m + ltr (g (i + m))
    have := (ltr_nI (hl (i + m) (by omega) (by omega))).1
    omega
  obtain ⟨c5, c6, c7, c8, c12, c13, c10, c11, c9, c16, c14, c15⟩ := w_consts
  unfold s_Mo_classify
  rw [pk_sub (by omega), if_neg (neR (N := 1) (j := 1) rfl (by omega) (by decide) (by omega))]
  dsimp only
  rw [hw', if_neg (neR (N := 0) (j := 0) rfl (by omega) (by decide) (by omega)), c5, c6, c7, c8, c12, c13, c10, c11, c9, c16, c14, c15]
  unfold wk
  by_cases d5 : hv g i (e - i) = 12468
  · rw [if_pos (show nI (hv g i (e - i)) = nI 12468 by rw [d5]), if_pos d5]
  rw [if_neg (nI_ne (by omega) (by decide) d5), if_neg d5]
  by_cases d6 : hv g i (e - i) = 3659220
  · rw [if_pos (show nI (hv g i (e - i)) = nI 3659220 by rw [d6]), if_pos d6]
  rw [if_neg (nI_ne (by omega) (by decide) d6), if_neg d6]
  by_cases d7 : hv g i (e - i) = 20141
  · rw [if_pos (show nI (hv g i (e - i)) = nI 20141 by rw [d7]), if_pos d7]
  rw [if_neg (nI_ne (by omega) (by decide) d7), if_neg d7]
  by_cases d8 : hv g i (e - i) = 75219
  · rw [if_pos (show nI (hv g i (e - i)) = nI 75219 by rw [d8]), if_pos d8]
  rw [if_neg (nI_ne (by omega) (by decide) d8), if_neg d8]
  by_cases d12 : hv g i (e - i) = 24385093
  · rw [if_pos (show nI (hv g i (e - i)) = nI 24385093 by rw [d12]), if_pos d12]
  rw [if_neg (nI_ne (by omega) (by decide) d12), if_neg d12]
  by_cases d13 : hv g i (e - i) = 302
  · rw [if_pos (show nI (hv g i (e - i)) = nI 302 by rw [d13]), if_pos d13]
  rw [if_neg (nI_ne (by omega) (by decide) d13), if_neg d13]
  by_cases d10 : hv g i (e - i) = 655
  · rw [if_pos (show nI (hv g i (e - i)) = nI 655 by rw [d10]), if_pos d10]
  rw [if_neg (nI_ne (by omega) (by decide) d10), if_neg d10]
  by_cases d11 : hv g i (e - i) = 89
  · rw [if_pos (show nI (hv g i (e - i)) = nI 89 by rw [d11]), if_pos d11]
  rw [if_neg (nI_ne (by omega) (by decide) d11), if_neg d11]
  by_cases d9 : hv g i (e - i) = 215533
  · rw [if_pos (show nI (hv g i (e - i)) = nI 215533 by rw [d9]), if_pos d9]
  rw [if_neg (nI_ne (by omega) (by decide) d9), if_neg d9]
  by_cases d16 : hv g i (e - i) = 14836
  · rw [if_pos (show nI (hv g i (e - i)) = nI 14836 by rw [d16]), if_pos d16]
  rw [if_neg (nI_ne (by omega) (by decide) d16), if_neg d16]
  by_cases d14 : hv g i (e - i) = 1476
  · rw [if_pos (show nI (hv g i (e - i)) = nI 1476 by rw [d14]), if_pos d14]
  rw [if_neg (nI_ne (by omega) (by decide) d14), if_neg d14]
  by_cases d15 : hv g i (e - i) = 498
  · rw [if_pos (show nI (hv g i (e - i)) = nI 498 by rw [d15]), if_pos d15]
  rw [if_neg (nI_ne (by omega) (by decide) d15), if_neg d15]
theorem mw_wk {f g : Nat → Int32} {N i e : Nat} (hN : N ≤ 2000) (he : e ≤ N) (h2 : 2 ≤ e - i) (h5 : e - i ≤ 5) (hfg : ∀ j, j < N → f j = g j) (hl : ∀ j, i ≤ j → j < e → ¬ s_Mo_isSmall (g j) = 0) : (∃ k, 5 ≤ k ∧ k < 17 ∧ Mw f N i (e - i) k ∧ wk (hv g i (e - i)) = nI (km k)) ∨ ((∀ k, 5 ≤ k → k < 17 → ¬ Mw f N i (e - i) k) ∧ wk (hv g i (e - i)) = 31) := by
  have hx : ∀ j, j < e - i → 1 ≤ ltr (g (i + j)) ∧ ltr (g (i + j)) ≤ 26 ∧ f (i + j) = nI (96 + ltr (g (i + j))) := fun j hj => by
    obtain ⟨a1, a2, a3⟩ := ltr_nI (hl (i + j) (by omega) (by omega))
    exact ⟨a1, a2, by rw [hfg _ (by omega)]; exact a3⟩
  have hc : ∀ {k q : Nat}, Mw f N i (e - i) k → q < e - i → (wd k).getD q 0 < 256 → 96 + ltr (g (i + q)) = (wd k).getD q 0 := fun {k q} hM hq h256 => by
    have h1 := hM.2 q (by rw [hM.1]; exact hq)
    rw [chAt_in (by omega), (hx q hq).2.2] at h1
    have h3 := (hx q hq).2.1
    exact (nI_eq (by omega) (by omega)).mp h1
  have hn : e - i = 2 ∨ e - i = 3 ∨ e - i = 4 ∨ e - i = 5 := by omega
  rcases hn with hn | hn | hn | hn
  · rw [hn] at hx hc ⊢
    obtain ⟨a0, b0, c0⟩ := hx 0 (by decide)
    obtain ⟨a1, b1, c1⟩ := hx 1 (by decide)
    have hv_e : hv g i 2 = 32 * (32 * (0) + ltr (g (i + 0))) + ltr (g (i + 1)) := rfl
    generalize hy0 : ltr (g (i + 0)) = y0 at a0 b0 c0 hv_e
    generalize hy1 : ltr (g (i + 1)) = y1 at a1 b1 c1 hv_e
    by_cases h10 : y0 = 20 ∧ y1 = 15
    · refine Or.inl ⟨10, by decide, by decide, ⟨rfl, fun q hq => ?_⟩, ?_⟩
      · have hq : q < 2 := hq
        have hq2 : q = 0 ∨ q = 1 := by omega
        rcases hq2 with rfl | rfl
        · rw [chAt_in (by omega), c0, (h10.1)]
          rfl
        · rw [chAt_in (by omega), c1, (h10.2)]
          rfl
      · rw [hv_e, h10.1, h10.2]
        decide
    by_cases h11 : y0 = 2 ∧ y1 = 25
    · refine Or.inl ⟨11, by decide, by decide, ⟨rfl, fun q hq => ?_⟩, ?_⟩
      · have hq : q < 2 := hq
        have hq2 : q = 0 ∨ q = 1 := by omega
        rcases hq2 with rfl | rfl
        · rw [chAt_in (by omega), c0, (h11.1)]
          rfl
        · rw [chAt_in (by omega), c1, (h11.2)]
          rfl
      · rw [hv_e, h11.1, h11.2]
        decide
    by_cases h13 : y0 = 9 ∧ y1 = 14
    · refine Or.inl ⟨13, by decide, by decide, ⟨rfl, fun q hq => ?_⟩, ?_⟩
      · have hq : q < 2 := hq
        have hq2 : q = 0 ∨ q = 1 := by omega
        rcases hq2 with rfl | rfl
        · rw [chAt_in (by omega), c0, (h13.1)]
          rfl
        · rw [chAt_in (by omega), c1, (h13.2)]
          rfl
      · rw [hv_e, h13.1, h13.2]
        decide
    by_cases h15 : y0 = 15 ∧ y1 = 18
    · refine Or.inl ⟨15, by decide, by decide, ⟨rfl, fun q hq => ?_⟩, ?_⟩
      · have hq : q < 2 := hq
        have hq2 : q = 0 ∨ q = 1 := by omega
        rcases hq2 with rfl | rfl
        · rw [chAt_in (by omega), c0, (h15.1)]
          rfl
        · rw [chAt_in (by omega), c1, (h15.2)]
          rfl
      · rw [hv_e, h15.1, h15.2]
        decide
    refine Or.inr ⟨fun k k5 k17 hM => ?_, ?_⟩
    · have hk : k = 5 ∨ k = 6 ∨ k = 7 ∨ k = 8 ∨ k = 9 ∨ k = 10 ∨ k = 11 ∨ k = 12 ∨ k = 13 ∨ k = 14 ∨ k = 15 ∨ k = 16 := by omega
      rcases hk with rfl | rfl | rfl | rfl | rfl | rfl | rfl | rfl | rfl | rfl | rfl | rfl
      · exact absurd hM.1 (by decide)
      · exact absurd hM.1 (by decide)
      · exact absurd hM.1 (by decide)
      · exact absurd hM.1 (by decide)
      · exact absurd hM.1 (by decide)
      · exact h10 ⟨(by have z := hc (q := 0) hM (by decide) (by decide); rw [hy0] at z; have z2 : 96 + y0 = 116 := z; omega), (by have z := hc (q := 1) hM (by decide) (by decide); rw [hy1] at z; have z2 : 96 + y1 = 111 := z; omega)⟩
      · exact h11 ⟨(by have z := hc (q := 0) hM (by decide) (by decide); rw [hy0] at z; have z2 : 96 + y0 = 98 := z; omega), (by have z := hc (q := 1) hM (by decide) (by decide); rw [hy1] at z; have z2 : 96 + y1 = 121 := z; omega)⟩
      · exact absurd hM.1 (by decide)
      · exact h13 ⟨(by have z := hc (q := 0) hM (by decide) (by decide); rw [hy0] at z; have z2 : 96 + y0 = 105 := z; omega), (by have z := hc (q := 1) hM (by decide) (by decide); rw [hy1] at z; have z2 : 96 + y1 = 110 := z; omega)⟩
      · exact absurd hM.1 (by decide)
      · exact h15 ⟨(by have z := hc (q := 0) hM (by decide) (by decide); rw [hy0] at z; have z2 : 96 + y0 = 111 := z; omega), (by have z := hc (q := 1) hM (by decide) (by decide); rw [hy1] at z; have z2 : 96 + y1 = 114 := z; omega)⟩
      · exact absurd hM.1 (by decide)
    · unfold wk
      rw [hv_e]
      rw [if_neg (by omega), if_neg (by omega), if_neg (by omega), if_neg (by omega), if_neg (by omega), if_neg (by omega), if_neg (by omega), if_neg (by omega), if_neg (by omega), if_neg (by omega), if_neg (by omega), if_neg (by omega)]
  · rw [hn] at hx hc ⊢
    obtain ⟨a0, b0, c0⟩ := hx 0 (by decide)
    obtain ⟨a1, b1, c1⟩ := hx 1 (by decide)
    obtain ⟨a2, b2, c2⟩ := hx 2 (by decide)
    have hv_e : hv g i 3 = 32 * (32 * (32 * (0) + ltr (g (i + 0))) + ltr (g (i + 1))) + ltr (g (i + 2)) := rfl
    generalize hy0 : ltr (g (i + 0)) = y0 at a0 b0 c0 hv_e
    generalize hy1 : ltr (g (i + 1)) = y1 at a1 b1 c1 hv_e
    generalize hy2 : ltr (g (i + 2)) = y2 at a2 b2 c2 hv_e
    by_cases h5 : y0 = 12 ∧ y1 = 5 ∧ y2 = 20
    · refine Or.inl ⟨5, by decide, by decide, ⟨rfl, fun q hq => ?_⟩, ?_⟩
      · have hq : q < 3 := hq
        have hq2 : q = 0 ∨ q = 1 ∨ q = 2 := by omega
        rcases hq2 with rfl | rfl | rfl
        · rw [chAt_in (by omega), c0, (h5.1)]
          rfl
        · rw [chAt_in (by omega), c1, (h5.2.1)]
          rfl
        · rw [chAt_in (by omega), c2, (h5.2.2)]
          rfl
      · rw [hv_e, h5.1, h5.2.1, h5.2.2]
        decide
    by_cases h7 : y0 = 19 ∧ y1 = 21 ∧ y2 = 13
    · refine Or.inl ⟨7, by decide, by decide, ⟨rfl, fun q hq => ?_⟩, ?_⟩
      · have hq : q < 3 := hq
        have hq2 : q = 0 ∨ q = 1 ∨ q = 2 := by omega
        rcases hq2 with rfl | rfl | rfl
        · rw [chAt_in (by omega), c0, (h7.1)]
          rfl
        · rw [chAt_in (by omega), c1, (h7.2.1)]
          rfl
        · rw [chAt_in (by omega), c2, (h7.2.2)]
          rfl
      · rw [hv_e, h7.1, h7.2.1, h7.2.2]
        decide
    by_cases h14 : y0 = 1 ∧ y1 = 14 ∧ y2 = 4
    · refine Or.inl ⟨14, by decide, by decide, ⟨rfl, fun q hq => ?_⟩, ?_⟩
      · have hq : q < 3 := hq
        have hq2 : q = 0 ∨ q = 1 ∨ q = 2 := by omega
        rcases hq2 with rfl | rfl | rfl
        · rw [chAt_in (by omega), c0, (h14.1)]
          rfl
        · rw [chAt_in (by omega), c1, (h14.2.1)]
          rfl
        · rw [chAt_in (by omega), c2, (h14.2.2)]
          rfl
      · rw [hv_e, h14.1, h14.2.1, h14.2.2]
        decide
    by_cases h16 : y0 = 14 ∧ y1 = 15 ∧ y2 = 20
    · refine Or.inl ⟨16, by decide, by decide, ⟨rfl, fun q hq => ?_⟩, ?_⟩
      · have hq : q < 3 := hq
        have hq2 : q = 0 ∨ q = 1 ∨ q = 2 := by omega
        rcases hq2 with rfl | rfl | rfl
        · rw [chAt_in (by omega), c0, (h16.1)]
          rfl
        · rw [chAt_in (by omega), c1, (h16.2.1)]
          rfl
        · rw [chAt_in (by omega), c2, (h16.2.2)]
          rfl
      · rw [hv_e, h16.1, h16.2.1, h16.2.2]
        decide
    refine Or.inr ⟨fun k k5 k17 hM => ?_, ?_⟩
    · have hk : k = 5 ∨ k = 6 ∨ k = 7 ∨ k = 8 ∨ k = 9 ∨ k = 10 ∨ k = 11 ∨ k = 12 ∨ k = 13 ∨ k = 14 ∨ k = 15 ∨ k = 16 := by omega
      rcases hk with rfl | rfl | rfl | rfl | rfl | rfl | rfl | rfl | rfl | rfl | rfl | rfl
      · exact h5 ⟨(by have z := hc (q := 0) hM (by decide) (by decide); rw [hy0] at z; have z2 : 96 + y0 = 108 := z; omega), (by have z := hc (q := 1) hM (by decide) (by decide); rw [hy1] at z; have z2 : 96 + y1 = 101 := z; omega), (by have z := hc (q := 2) hM (by decide) (by decide); rw [hy2] at z; have z2 : 96 + y2 = 116 := z; omega)⟩
      · exact absurd hM.1 (by decide)
      · exact h7 ⟨(by have z := hc (q := 0) hM (by decide) (by decide); rw [hy0] at z; have z2 : 96 + y0 = 115 := z; omega), (by have z := hc (q := 1) hM (by decide) (by decide); rw [hy1] at z; have z2 : 96 + y1 = 117 := z; omega), (by have z := hc (q := 2) hM (by decide) (by decide); rw [hy2] at z; have z2 : 96 + y2 = 109 := z; omega)⟩
      · exact absurd hM.1 (by decide)
      · exact absurd hM.1 (by decide)
      · exact absurd hM.1 (by decide)
      · exact absurd hM.1 (by decide)
      · exact absurd hM.1 (by decide)
      · exact absurd hM.1 (by decide)
      · exact h14 ⟨(by have z := hc (q := 0) hM (by decide) (by decide); rw [hy0] at z; have z2 : 96 + y0 = 97 := z; omega), (by have z := hc (q := 1) hM (by decide) (by decide); rw [hy1] at z; have z2 : 96 + y1 = 110 := z; omega), (by have z := hc (q := 2) hM (by decide) (by decide); rw [hy2] at z; have z2 : 96 + y2 = 100 := z; omega)⟩
      · exact absurd hM.1 (by decide)
      · exact h16 ⟨(by have z := hc (q := 0) hM (by decide) (by decide); rw [hy0] at z; have z2 : 96 + y0 = 110 := z; omega), (by have z := hc (q := 1) hM (by decide) (by decide); rw [hy1] at z; have z2 : 96 + y1 = 111 := z; omega), (by have z := hc (q := 2) hM (by decide) (by decide); rw [hy2] at z; have z2 : 96 + y2 = 116 := z; omega)⟩
    · unfold wk
      rw [hv_e]
      rw [if_neg (by omega), if_neg (by omega), if_neg (by omega), if_neg (by omega), if_neg (by omega), if_neg (by omega), if_neg (by omega), if_neg (by omega), if_neg (by omega), if_neg (by omega), if_neg (by omega), if_neg (by omega)]
  · rw [hn] at hx hc ⊢
    obtain ⟨a0, b0, c0⟩ := hx 0 (by decide)
    obtain ⟨a1, b1, c1⟩ := hx 1 (by decide)
    obtain ⟨a2, b2, c2⟩ := hx 2 (by decide)
    obtain ⟨a3, b3, c3⟩ := hx 3 (by decide)
    have hv_e : hv g i 4 = 32 * (32 * (32 * (32 * (0) + ltr (g (i + 0))) + ltr (g (i + 1))) + ltr (g (i + 2))) + ltr (g (i + 3)) := rfl
    generalize hy0 : ltr (g (i + 0)) = y0 at a0 b0 c0 hv_e
    generalize hy1 : ltr (g (i + 1)) = y1 at a1 b1 c1 hv_e
    generalize hy2 : ltr (g (i + 2)) = y2 at a2 b2 c2 hv_e
    generalize hy3 : ltr (g (i + 3)) = y3 at a3 b3 c3 hv_e
    by_cases h8 : y0 = 2 ∧ y1 = 9 ∧ y2 = 14 ∧ y3 = 19
    · refine Or.inl ⟨8, by decide, by decide, ⟨rfl, fun q hq => ?_⟩, ?_⟩
      · have hq : q < 4 := hq
        have hq2 : q = 0 ∨ q = 1 ∨ q = 2 ∨ q = 3 := by omega
        rcases hq2 with rfl | rfl | rfl | rfl
        · rw [chAt_in (by omega), c0, (h8.1)]
          rfl
        · rw [chAt_in (by omega), c1, (h8.2.1)]
          rfl
        · rw [chAt_in (by omega), c2, (h8.2.2.1)]
          rfl
        · rw [chAt_in (by omega), c3, (h8.2.2.2)]
          rfl
      · rw [hv_e, h8.1, h8.2.1, h8.2.2.1, h8.2.2.2]
        decide
    by_cases h9 : y0 = 6 ∧ y1 = 18 ∧ y2 = 15 ∧ y3 = 13
    · refine Or.inl ⟨9, by decide, by decide, ⟨rfl, fun q hq => ?_⟩, ?_⟩
      · have hq : q < 4 := hq
        have hq2 : q = 0 ∨ q = 1 ∨ q = 2 ∨ q = 3 := by omega
        rcases hq2 with rfl | rfl | rfl | rfl
        · rw [chAt_in (by omega), c0, (h9.1)]
          rfl
        · rw [chAt_in (by omega), c1, (h9.2.1)]
          rfl
        · rw [chAt_in (by omega), c2, (h9.2.2.1)]
          rfl
        · rw [chAt_in (by omega), c3, (h9.2.2.2)]
          rfl
      · rw [hv_e, h9.1, h9.2.1, h9.2.2.1, h9.2.2.2]
        decide
    refine Or.inr ⟨fun k k5 k17 hM => ?_, ?_⟩
    · have hk : k = 5 ∨ k = 6 ∨ k = 7 ∨ k = 8 ∨ k = 9 ∨ k = 10 ∨ k = 11 ∨ k = 12 ∨ k = 13 ∨ k = 14 ∨ k = 15 ∨ k = 16 := by omega
      rcases hk with rfl | rfl | rfl | rfl | rfl | rfl | rfl | rfl | rfl | rfl | rfl | rfl
      · exact absurd hM.1 (by decide)
      · exact absurd hM.1 (by decide)
      · exact absurd hM.1 (by decide)
      · exact h8 ⟨(by have z := hc (q := 0) hM (by decide) (by decide); rw [hy0] at z; have z2 : 96 + y0 = 98 := z; omega), (by have z := hc (q := 1) hM (by decide) (by decide); rw [hy1] at z; have z2 : 96 + y1 = 105 := z; omega), (by have z := hc (q := 2) hM (by decide) (by decide); rw [hy2] at z; have z2 : 96 + y2 = 110 := z; omega), (by have z := hc (q := 3) hM (by decide) (by decide); rw [hy3] at z; have z2 : 96 + y3 = 115 := z; omega)⟩
      · exact h9 ⟨(by have z := hc (q := 0) hM (by decide) (by decide); rw [hy0] at z; have z2 : 96 + y0 = 102 := z; omega), (by have z := hc (q := 1) hM (by decide) (by decide); rw [hy1] at z; have z2 : 96 + y1 = 114 := z; omega), (by have z := hc (q := 2) hM (by decide) (by decide); rw [hy2] at z; have z2 : 96 + y2 = 111 := z; omega), (by have z := hc (q := 3) hM (by decide) (by decide); rw [hy3] at z; have z2 : 96 + y3 = 109 := z; omega)⟩
      · exact absurd hM.1 (by decide)
      · exact absurd hM.1 (by decide)
      · exact absurd hM.1 (by decide)
      · exact absurd hM.1 (by decide)
      · exact absurd hM.1 (by decide)
      · exact absurd hM.1 (by decide)
      · exact absurd hM.1 (by decide)
    · unfold wk
      rw [hv_e]
      rw [if_neg (by omega), if_neg (by omega), if_neg (by omega), if_neg (by omega), if_neg (by omega), if_neg (by omega), if_neg (by omega), if_neg (by omega), if_neg (by omega), if_neg (by omega), if_neg (by omega), if_neg (by omega)]
  · rw [hn] at hx hc ⊢
    obtain ⟨a0, b0, c0⟩ := hx 0 (by decide)
    obtain ⟨a1, b1, c1⟩ := hx 1 (by decide)
    obtain ⟨a2, b2, c2⟩ := hx 2 (by decide)
    obtain ⟨a3, b3, c3⟩ := hx 3 (by decide)
    obtain ⟨a4, b4, c4⟩ := hx 4 (by decide)
    have hv_e : hv g i 5 = 32 * (32 * (32 * (32 * (32 * (0) + ltr (g (i + 0))) + ltr (g (i + 1))) + ltr (g (i + 2))) + ltr (g (i + 3))) + ltr (g (i + 4)) := rfl
    generalize hy0 : ltr (g (i + 0)) = y0 at a0 b0 c0 hv_e
    generalize hy1 : ltr (g (i + 1)) = y1 at a1 b1 c1 hv_e
    generalize hy2 : ltr (g (i + 2)) = y2 at a2 b2 c2 hv_e
    generalize hy3 : ltr (g (i + 3)) = y3 at a3 b3 c3 hv_e
    generalize hy4 : ltr (g (i + 4)) = y4 at a4 b4 c4 hv_e
    by_cases h6 : y0 = 3 ∧ y1 = 15 ∧ y2 = 21 ∧ y3 = 14 ∧ y4 = 20
    · refine Or.inl ⟨6, by decide, by decide, ⟨rfl, fun q hq => ?_⟩, ?_⟩
      · have hq : q < 5 := hq
        have hq2 : q = 0 ∨ q = 1 ∨ q = 2 ∨ q = 3 ∨ q = 4 := by omega
        rcases hq2 with rfl | rfl | rfl | rfl | rfl
        · rw [chAt_in (by omega), c0, (h6.1)]
          rfl
        · rw [chAt_in (by omega), c1, (h6.2.1)]
          rfl
        · rw [chAt_in (by omega), c2, (h6.2.2.1)]
          rfl
        · rw [chAt_in (by omega), c3, (h6.2.2.2.1)]
          rfl
        · rw [chAt_in (by omega), c4, (h6.2.2.2.2)]
          rfl
      · rw [hv_e, h6.1, h6.2.1, h6.2.2.1, h6.2.2.2.1, h6.2.2.2.2]
        decide
    by_cases h12 : y0 = 23 ∧ y1 = 8 ∧ y2 = 5 ∧ y3 = 18 ∧ y4 = 5
    · refine Or.inl ⟨12, by decide, by decide, ⟨rfl, fun q hq => ?_⟩, ?_⟩
      · have hq : q < 5 := hq
        have hq2 : q = 0 ∨ q = 1 ∨ q = 2 ∨ q = 3 ∨ q = 4 := by omega
        rcases hq2 with rfl | rfl | rfl | rfl | rfl
        · rw [chAt_in (by omega), c0, (h12.1)]
          rfl
        · rw [chAt_in (by omega), c1, (h12.2.1)]
          rfl
        · rw [chAt_in (by omega), c2, (h12.2.2.1)]
          rfl
        · rw [chAt_in (by omega), c3, (h12.2.2.2.1)]
          rfl
        · rw [chAt_in (by omega), c4, (h12.2.2.2.2)]
          rfl
      · rw [hv_e, h12.1, h12.2.1, h12.2.2.1, h12.2.2.2.1, h12.2.2.2.2]
        decide
    refine Or.inr ⟨fun k k5 k17 hM => ?_, ?_⟩
    · have hk : k = 5 ∨ k = 6 ∨ k = 7 ∨ k = 8 ∨ k = 9 ∨ k = 10 ∨ k = 11 ∨ k = 12 ∨ k = 13 ∨ k = 14 ∨ k = 15 ∨ k = 16 := by omega
      rcases hk with rfl | rfl | rfl | rfl | rfl | rfl | rfl | rfl | rfl | rfl | rfl | rfl
      · exact absurd hM.1 (by decide)
      · exact h6 ⟨(by have z := hc (q := 0) hM (by decide) (by decide); rw [hy0] at z; have z2 : 96 + y0 = 99 := z; omega), (by have z := hc (q := 1) hM (by decide) (by decide); rw [hy1] at z; have z2 : 96 + y1 = 111 := z; omega), (by have z := hc (q := 2) hM (by decide) (by decide); rw [hy2] at z; have z2 : 96 + y2 = 117 := z; omega), (by have z := hc (q := 3) hM (by decide) (by decide); rw [hy3] at z; have z2 : 96 + y3 = 110 := z; omega), (by have z := hc (q := 4) hM (by decide) (by decide); rw [hy4] at z; have z2 : 96 + y4 = 116 := z; omega)⟩
      · exact absurd hM.1 (by decide)
      · exact absurd hM.1 (by decide)
      · exact absurd hM.1 (by decide)
      · exact absurd hM.1 (by decide)
      · exact absurd hM.1 (by decide)
      · exact h12 ⟨(by have z := hc (q := 0) hM (by decide) (by decide); rw [hy0] at z; have z2 : 96 + y0 = 119 := z; omega), (by have z := hc (q := 1) hM (by decide) (by decide); rw [hy1] at z; have z2 : 96 + y1 = 104 := z; omega), (by have z := hc (q := 2) hM (by decide) (by decide); rw [hy2] at z; have z2 : 96 + y2 = 101 := z; omega), (by have z := hc (q := 3) hM (by decide) (by decide); rw [hy3] at z; have z2 : 96 + y3 = 114 := z; omega), (by have z := hc (q := 4) hM (by decide) (by decide); rw [hy4] at z; have z2 : 96 + y4 = 101 := z; omega)⟩
      · exact absurd hM.1 (by decide)
      · exact absurd hM.1 (by decide)
      · exact absurd hM.1 (by decide)
      · exact absurd hM.1 (by decide)
    · unfold wk
      rw [hv_e]
      rw [if_neg (by omega), if_neg (by omega), if_neg (by omega), if_neg (by omega), if_neg (by omega), if_neg (by omega), if_neg (by omega), if_neg (by omega), if_neg (by omega), if_neg (by omega), if_neg (by omega), if_neg (by omega)]
theorem list_ext : ∀ {l r : List Nat}, l.length = r.length → (∀ q, q < l.length → l.getD q 0 = r.getD q 0) → l = r
  | [], [], _, _ => rfl
  | [], _ :: _, h, _ => absurd h (by intro z; exact Nat.noConfusion z)
  | _ :: _, [], h, _ => absurd h (by intro z; exact Nat.noConfusion z)
  | x :: l, y :: r, h, k => by
    have h0 : x = y := k 0 (Nat.succ_pos _)
    have h1 : l = r := list_ext (Nat.succ.inj h) (fun q hq => k (q + 1) (Nat.succ_lt_succ hq))
    rw [h0, h1]
theorem mw_uniq {f : Nat → Int32} {N i l k k' : Nat} (h1 : 5 ≤ k) (h2 : k < 17) (h3 : 5 ≤ k') (h4 : k' < 17) (m : Mw f N i l k) (m' : Mw f N i l k') : k = k' := by
  have hd : ∀ a, a < 17 → ∀ b, b < 17 → (5 ≤ a ∧ 5 ≤ b ∧ wd a = wd b → a = b) := by decide +kernel
  refine hd k h2 k' h4 ⟨h1, h3, list_ext (m.1.trans m'.1.symm) (fun q hq => ?_)⟩
  have e1 := m.2 q hq
  have e2 := m'.2 q (by rw [m'.1, ← m.1]; exact hq)
  have b1 := (wd_tab k (by omega) h1).2.2.2 q hq
  have b2 := (wd_tab k' (by omega) h3).2.2.2 q (by rw [m'.1, ← m.1]; exact hq)
  rw [e1] at e2
  exact (nI_eq (by omega) (by omega)).mp e2
