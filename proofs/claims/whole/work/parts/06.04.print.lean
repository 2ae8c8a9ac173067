/-! print: the tokens written out -/
/-- the class's kinds as the reference numbers them -/
def kmL : List Nat := [30, 31, 15, 13, 14, 1, 2, 3, 4, 9, 7, 8, 5, 6, 11, 12, 10, 20, 21, 22, 18, 19, 17, 23, 24, 25, 16, 26, 27, 28, 29]
def km (k : Nat) : Nat := kmL.getD k 0
/-- how a keyword or a sign is written -/
def wdL : List (List Nat) := [[], [], [], [], [], [108, 101, 116], [99, 111, 117, 110, 116], [115, 117, 109], [98, 105, 110, 115], [102, 114, 111, 109], [116, 111], [98, 121], [119, 104, 101, 114, 101], [105, 110], [97, 110, 100], [111, 114], [110, 111, 116], [60, 61], [62, 61], [60, 62], [60], [62], [61], [43], [45], [42], [59], [40], [41], [91], [93]]
def wd (k : Nat) : List Nat := wdL.getD k []
/-- signs put behind one another from place m on -/
def appL : (Nat → Int32) → Nat → List Nat → (Nat → Int32)
  | g, _, [] => g
  | g, m, c :: l => appL (upd g m (nI c)) (m + 1) l
theorem appL_eq : ∀ (l : List Nat) (m : Nat) (f g : Nat → Int32), (∀ i, i < 1 * m → f i = g i) → ∀ i, i < 1 * (m + l.length) → appL f m l i = appL g m l i := by
  intro l
  induction l with
  | nil => intro m f g h i hi; exact h i hi
  | cons c l ih =>
    intro m f g h i hi
    rw [List.length_cons] at hi
    exact ih (m + 1) _ _ (fun j hj => upd_eq fun _ => h j (by omega)) i (by omega)
theorem nar_ch {c : Nat} (hc : c < 65536) : vp_nar .char (nI c) = nI c := by
  unfold vp_nar
  rw [(pk_charN hc).1]
theorem outAdd {f : Nat → Int32} {m c : Nat} (hm : m < 4000) (hc : c < 65536) : s_Out_add f (nI m) (nI c) = (nI (m + 1), upd f m (nI c)) := by
  unfold s_Out_add
  rw [if_neg (geL (N := 4000) (b := 4000) rfl hm (by decide)), nI_1, nI_clamp (by omega), nar_ch hc]
theorem getD_el {l : List Nat} {i : Nat} (h : i < l.length) : l.drop i = l.getD i 0 :: l.drop (i + 1) := by
  rw [List.drop_eq_getElem_cons h, List.getD_eq_getElem?_getD, List.getElem?_eq_getElem h]
  rfl
theorem addWord_lp {j : Nat} {C : List Nat} (hl : lenS.getD j 0 = C.length) (h8 : C.length ≤ 7) (hC : ∀ i, i < C.length → s_Str_charAt j (nI i) = nI (C.getD i 0) ∧ C.getD i 0 < 256) : ∀ (r i m b : Nat) (f : Nat → Int32), i + r = C.length → m + r ≤ 4000 →
    lp_Out_addWord_2 j (r + 1 + b) (nI i) (nI m) f = (nI (m + r), appL f m (C.drop i)) ∧ oklp_Out_addWord_2 j (r + 1 + b) (nI i) (nI m) f := by
  have hL : s_Str_length j = nI C.length := by
    unfold s_Str_length
    rw [hl]
    exact sc_shr0 (by omega)
  intro r
  induction r with
  | zero =>
    intro i m b f hi hm
    rw [show 0 + 1 + b = b + 1 from by omega, lp_Out_addWord_2, oklp_Out_addWord_2]
    dsimp only
    rw [hL, if_pos (nI_le (by omega) (by omega)), if_pos (nI_le (by omega) (by omega)), List.drop_eq_nil_of_le (by omega)]
    exact ⟨rfl, trivial⟩
  | succ r ih =>
    intro i m b f hi hm
    have hlt : ¬ nI C.length ≤ nI i := nI_ge (by omega) (by omega)
    obtain ⟨c1, c2⟩ := hC i (by omega)
    obtain ⟨a1, a2⟩ := ih (i + 1) (m + 1) b (upd f m (nI (C.getD i 0))) (by omega) (by omega)
    rw [show r + 1 + 1 + b = (r + 1 + b) + 1 from by omega, lp_Out_addWord_2, oklp_Out_addWord_2]
    dsimp only
    rw [hL, if_neg hlt, if_neg hlt, c1, outAdd (by omega) (by omega), nI_1, getD_el (by omega)]
    refine ⟨?_, ?_, up_of (by omega) (by decide), a2⟩
    · rw [show m + (r + 1) = m + 1 + r from by omega]
      exact a1
    · rw [hl]
      exact vp_in_nI (by omega) (by omega)
set_option maxRecDepth 100000 in
theorem wd_tab : ∀ k, k < 31 → 5 ≤ k → lenS.getD (s_Tok_spelling (nI k)) 0 = (wd k).length ∧ (wd k).length ≤ 5 ∧ 1 ≤ (wd k).length ∧ ∀ i, i < (wd k).length → s_Str_charAt (s_Tok_spelling (nI k)) (nI i) = nI ((wd k).getD i 0) ∧ (wd k).getD i 0 < 256 := by decide +kernel
theorem addWord_k {k m : Nat} {f : Nat → Int32} (h1 : k < 31) (h2 : 5 ≤ k) (hm : m + (wd k).length ≤ 4000) : lp_Out_addWord_2 (s_Tok_spelling (nI k)) 8 (0 : Int32) (nI m) f = (nI (m + (wd k).length), appL f m (wd k)) ∧ ok_Out_addWord f (nI m) (s_Tok_spelling (nI k)) := by
  obtain ⟨a1, a2, a3, a4⟩ := wd_tab k h1 h2
  obtain ⟨b1, b2⟩ := addWord_lp a1 (by omega) a4 (wd k).length 0 m (7 - (wd k).length) f (by omega) hm
  rw [show (wd k).length + 1 + (7 - (wd k).length) = 8 from by omega] at b1 b2
  exact ⟨b1, b2⟩
/-! numbers -/
def dl (v : Nat) : Nat → List Nat
  | 0 => [48 + v % 10]
  | j + 1 => if 10 ^ (j + 1) ≤ v then (48 + v / 10 ^ (j + 1) % 10) :: dl v j else dl v j
def fl (v : Nat) : Nat → List Nat
  | 0 => [48 + v % 10]
  | j + 1 => (48 + v / 10 ^ (j + 1) % 10) :: fl v j
theorem fl_len (v : Nat) : ∀ j, (fl v j).length = j + 1 := by
  intro j
  induction j with
  | zero => rfl
  | succ j ih =>
    show (fl v j).length + 1 = j + 1 + 1
    rw [ih]
theorem dl_fl {v : Nat} : ∀ j, 10 ^ j ≤ v → dl v j = fl v j := by
  intro j
  induction j with
  | zero => intro _; rfl
  | succ j ih =>
    intro h
    have h2 : 10 ^ j ≤ v := Nat.le_trans (Nat.pow_le_pow_right (by decide) (Nat.le_succ j)) h
    rw [dl, fl, if_pos h, ih h2]
theorem dl_skip {v s : Nat} (h : v < 10 ^ (s + 1)) : ∀ r, dl v (s + r) = dl v s := by
  intro r
  induction r with
  | zero => rfl
  | succ r ih =>
    have h2 : ¬ 10 ^ (s + r + 1) ≤ v := by
      have := Nat.pow_le_pow_right (n := 10) (by decide) (show s + 1 ≤ s + r + 1 by omega)
      omega
    rw [show s + (r + 1) = (s + r) + 1 from by omega, dl, if_neg h2, ih]
theorem dl_fit (v : Nat) : ∀ j, v < 10 ^ (j + 1) → ∃ s, s ≤ j ∧ v < 10 ^ (s + 1) ∧ (s = 0 ∨ 10 ^ s ≤ v) := by
  intro j
  induction j with
  | zero => intro h; exact ⟨0, Nat.le_refl _, h, Or.inl rfl⟩
  | succ j ih =>
    intro h
    by_cases c : v < 10 ^ (j + 1)
    · obtain ⟨s, h1, h2, h3⟩ := ih c
      exact ⟨s, by omega, h2, h3⟩
    · exact ⟨j + 1, Nat.le_refl _, h, Or.inr (by omega)⟩
theorem dl_all {v : Nat} (hv : v < 2 ^ 31) : ∃ s, s ≤ 9 ∧ v < 10 ^ (s + 1) ∧ (s = 0 ∨ 10 ^ s ≤ v) ∧ dl v 9 = fl v s := by
  obtain ⟨s, h1, h2, h3⟩ := dl_fit v 9 (by have : (2 : Nat) ^ 31 < 10 ^ (9 + 1) := by decide
                                           omega)
  refine ⟨s, h1, h2, h3, ?_⟩
  have h4 := dl_skip h2 (9 - s)
  rw [show s + (9 - s) = 9 from by omega] at h4
  rw [h4]
  rcases h3 with h3 | h3
  · subst h3
    rfl
  · exact dl_fl s h3
theorem p10_9 {j : Nat} (h : j ≤ 9) : 10 ^ j < 2 ^ 31 := by
  have h1 : (10 : Nat) ^ j ≤ 10 ^ 9 := Nat.pow_le_pow_right (by decide) h
  have h2 : (10 : Nat) ^ 9 < 2 ^ 31 := by decide
  omega
theorem p10_div (j : Nat) : 10 ^ (j + 1) / 10 = 10 ^ j := by
  rw [Nat.pow_succ]
  exact Nat.mul_div_cancel _ (by decide)
theorem numCh {f : Nat → Int32} {m d : Nat} (hm : m < 4000) (hd : d < 10) : s_Out_add f (nI m) (((48 + nI d).toUInt32 % 65536).toInt32) = (nI (m + 1), upd f m (nI (48 + d))) := by
  unfold s_Out_add
  rw [if_neg (geL (N := 4000) (b := 4000) rfl hm (by decide)), nI_1, nI_clamp (by omega), (dig_ch hd).1]
theorem num_rem {v j : Nat} (hv : v < 2 ^ 31) (hj : j ≤ 9) : nI v / nI (10 ^ j) - nI v / nI (10 ^ j) / 10 * 10 = nI (v / 10 ^ j % 10) := by
  have h1 : v / 10 ^ j ≤ v := Nat.div_le_self _ _
  rw [pk_div hv (p10 j) (p10_9 hj)]
  exact pk_rem (d := 10) (by omega) (by decide) (by decide)
theorem addNum {v : Nat} (hv : v < 2 ^ 31) : ∀ (j m b : Nat) (f : Nat → Int32), j ≤ 9 → m + (dl v j).length ≤ 4000 → lp_Out_addNumber (nI v) (j + 2 + b) (nI (10 ^ j)) f (nI m) = (nI (m + (dl v j).length), appL f m (dl v j)) := by
  intro j
  induction j with
  | zero =>
    intro m b f hj hm
    have hm : m + 1 ≤ 4000 := hm
    have hr := num_rem (j := 0) hv hj
    rw [Nat.pow_zero, Nat.div_one] at hr
    have hend : ∀ (k : Int32) (F : Nat → Int32), lp_Out_addNumber (nI v) (b + 1) (nI 1 / 10) F k = (k, F) := fun k F => by
      rw [lp_Out_addNumber, if_pos (by decide)]
    rw [show 0 + 2 + b = (b + 1) + 1 from by omega, Nat.pow_zero, lp_Out_addNumber, if_neg (by decide), hr]
    dsimp only
    rw [numCh (by omega) (by omega)]
    dsimp only
    rw [hend]
    split
    · rfl
    · rw [if_pos (show nI 1 = 1 from rfl)]
      rfl
  | succ j ih =>
    intro m b f hj hm
    have hr := num_rem (j := j + 1) hv hj
    have hw : nI (10 ^ (j + 1)) / 10 = nI (10 ^ j) := by
      rw [show (10 : Int32) = nI 10 from rfl, pk_div (p10_9 hj) (by decide) (by decide), p10_div]
    rw [show j + 1 + 2 + b = (j + 2 + b) + 1 from by omega, lp_Out_addNumber, if_neg (nI_nle (p10 _) (p10_9 hj)), hr, hw]
    rw [dl] at hm ⊢
    by_cases c : 10 ^ (j + 1) ≤ v
    · rw [if_pos c] at hm ⊢
      rw [List.length_cons] at hm ⊢
      rw [if_pos (nI_le c hv)]
      dsimp only
      rw [numCh (by omega) (by omega)]
      dsimp only
      rw [ih (m + 1) b _ (by omega) (by omega), show m + 1 + (dl v j).length = m + ((dl v j).length + 1) from by omega]
      rfl
    · rw [if_neg c] at hm ⊢
      have hne : ¬ nI (10 ^ (j + 1)) = 1 := neR (N := 1) (j := 1) rfl (p10_9 hj) (by decide) (by
        have := p10 j
        rw [Nat.pow_succ]
        omega)
      rw [if_neg (nI_ge (by omega) (p10_9 hj)), if_neg hne]
      exact ih m b f (by omega) hm
theorem findT {v s : Nat} (hv : v < 2 ^ 31) (hs : s ≤ 9) (h1 : v < 10 ^ (s + 1)) (h2 : s = 0 ∨ 10 ^ s ≤ v) : ∀ (r j b : Nat), j + r = s → lp_Mo_writeNumber_2 (nI v) (r + 1 + b) (nI (10 ^ j)) = nI (10 ^ s) ∧ oklp_Mo_writeNumber_2 (nI v) (r + 1 + b) (nI (10 ^ j)) := by
  intro r
  induction r with
  | zero =>
    intro j b hj
    have hj : j = s := by omega
    subst hj
    have hd : v / 10 ^ j < 10 := by
      apply Nat.div_lt_of_lt_mul
      rw [← Nat.pow_succ]
      exact h1
    have hq : nI v / nI (10 ^ j) < 10 := by
      rw [pk_div hv (p10 j) (p10_9 hs)]
      exact ltR (N := 10) (b := 10) rfl hd (by decide)
    rw [show 0 + 1 + b = b + 1 from by omega, lp_Mo_writeNumber_2, oklp_Mo_writeNumber_2, if_pos hq, if_pos hq]
    exact ⟨rfl, nI_ne0 (p10 j) (p10_9 hs), trivial⟩
  | succ r ih =>
    intro j b hj
    have hle : 10 ^ (j + 1) ≤ v := by
      rcases h2 with h2 | h2
      · omega
      · exact Nat.le_trans (Nat.pow_le_pow_right (by decide) (by omega)) h2
    have hd : 10 ≤ v / 10 ^ j := by
      rw [Nat.le_div_iff_mul_le (p10 j), Nat.mul_comm, ← Nat.pow_succ]
      exact hle
    have hq : ¬ nI v / nI (10 ^ j) < 10 := by
      rw [pk_div hv (p10 j) (p10_9 (by omega))]
      exact nltR (N := 10) (b := 10) rfl hd (Nat.lt_of_le_of_lt (Nat.div_le_self _ _) hv)
    have hm : nI (10 ^ j) * 10 = nI (10 ^ (j + 1)) := pk_mul (10 ^ j) 10
    obtain ⟨a1, a2⟩ := ih (j + 1) b (by omega)
    rw [show r + 1 + 1 + b = (r + 1 + b) + 1 from by omega, lp_Mo_writeNumber_2, oklp_Mo_writeNumber_2, if_neg hq, if_neg hq, hm]
    exact ⟨a1, nI_ne0 (p10 j) (p10_9 (by omega)), a2⟩
theorem writeT {v : Nat} (hv : v < 2 ^ 31) : ∀ (j m b : Nat) (g : Nat → Int32), j ≤ 9 → m + j + 1 ≤ 4190 → lp_Mo_writeNumber_18 (nI v) (j + 2 + b) (nI (10 ^ j)) g (nI m) = (nI (m + (fl v j).length), appL g m (fl v j)) ∧ oklp_Mo_writeNumber_18 (nI v) (j + 2 + b) (nI (10 ^ j)) g (nI m) := by
  intro j
  induction j with
  | zero =>
    intro m b g hj hm
    have hr := num_rem (j := 0) hv hj
    rw [Nat.pow_zero, Nat.div_one] at hr
    have hend : ∀ (k : Int32) (F : Nat → Int32), lp_Mo_writeNumber_18 (nI v) (b + 1) (nI 1 / 10) F k = (k, F) ∧ oklp_Mo_writeNumber_18 (nI v) (b + 1) (nI 1 / 10) F k := fun k F => by
      rw [lp_Mo_writeNumber_18, oklp_Mo_writeNumber_18, if_pos (by decide), if_pos (by decide)]
      exact ⟨rfl, trivial⟩
    rw [show 0 + 2 + b = (b + 1) + 1 from by omega, Nat.pow_zero, lp_Mo_writeNumber_18, oklp_Mo_writeNumber_18, if_neg (by decide), if_neg (by decide), hr, (dig_ch (d := v % 10) (by omega)).2, (hend _ _).1, nI_1, nI_clamp (by omega)]
    exact ⟨rfl, by decide, up_of (by omega) (by decide), (hend _ _).2⟩
  | succ j ih =>
    intro m b g hj hm
    have hr := num_rem (j := j + 1) hv hj
    have hw : nI (10 ^ (j + 1)) / 10 = nI (10 ^ j) := by
      rw [show (10 : Int32) = nI 10 from rfl, pk_div (p10_9 hj) (by decide) (by decide), p10_div]
    have hp : ¬ nI (10 ^ (j + 1)) ≤ 0 := nI_nle (p10 _) (p10_9 hj)
    obtain ⟨a1, a2⟩ := ih (m + 1) b (upd g m (nI (48 + v / 10 ^ (j + 1) % 10))) (by omega) (by omega)
    rw [show j + 1 + 2 + b = (j + 2 + b) + 1 from by omega, lp_Mo_writeNumber_18, oklp_Mo_writeNumber_18, if_neg hp, if_neg hp, hr, hw, (dig_ch (d := v / 10 ^ (j + 1) % 10) (by omega)).2, nI_1, nI_clamp (by omega), a1]
    refine ⟨?_, nI_ne0 (p10 _) (p10_9 hj), up_of (by omega) (by decide), a2⟩
    rw [fl_len, fl_len, show m + 1 + (j + 1) = m + (j + 1 + 1) from by omega]
    rfl
theorem moNum {v m : Nat} {g : Nat → Int32} (hv : v < 2 ^ 31) (hm : m ≤ 4000) : s_Mo_writeNumber g (nI m) (nI v) = (nI (m + (dl v 9).length), appL g m (dl v 9)) ∧ ok_Mo_writeNumber g (nI m) (nI v) := by
  obtain ⟨s, h1, h2, h3, h4⟩ := dl_all hv
  obtain ⟨a1, a2⟩ := findT hv h1 h2 h3 s 0 (19 - s) (by omega)
  rw [show s + 1 + (19 - s) = 20 from by omega, Nat.pow_zero] at a1 a2
  obtain ⟨b1, b2⟩ := writeT hv s m (18 - s) g h1 (by omega)
  rw [show s + 2 + (18 - s) = 20 from by omega] at b1 b2
  have a1' : lp_Mo_writeNumber_2 (nI v) 20 (1 : Int32) = nI (10 ^ s) := a1
  have a2' : oklp_Mo_writeNumber_2 (nI v) 20 (1 : Int32) := a2
  unfold s_Mo_writeNumber ok_Mo_writeNumber
  dsimp only
  rw [a1', h4]
  exact ⟨b1, a2', b2⟩
/-! the reference's words and signs -/
theorem okL {m : Nat} {x y z : Int32} (hm : m ≤ 4100) : ok_Mo_writeLetters (nI m) x y z := by
  unfold ok_Mo_writeLetters
  simp only [nI_1]
  repeat' split
  all_goals repeat' (first | exact trivial | exact up_of (by omega) (by decide) | refine ⟨?_, ?_⟩)
theorem wl2 {g : Nat → Int32} {m a b : Nat} (hm : m ≤ 4100) : s_Mo_writeLetters g (nI m) (nI a) (nI b) 0 0 0 = (nI (m + 2), appL g m [a, b]) := by
  unfold s_Mo_writeLetters
  rw [if_pos rfl, if_pos rfl, if_pos rfl, nI_1, nI_1, nI_clamp (by omega), nI_clamp (by omega)]
  rfl
theorem wl3 {g : Nat → Int32} {m a b c : Nat} (hm : m ≤ 4100) (hc : ¬ nI c = 0) : s_Mo_writeLetters g (nI m) (nI a) (nI b) (nI c) 0 0 = (nI (m + 3), appL g m [a, b, c]) := by
  unfold s_Mo_writeLetters
  rw [if_neg hc, if_pos rfl, if_pos rfl, nI_1, nI_1, nI_1, nI_clamp (by omega), nI_clamp (by omega), nI_clamp (by omega)]
  rfl
theorem wl4 {g : Nat → Int32} {m a b c d : Nat} (hm : m ≤ 4100) (hc : ¬ nI c = 0) (hd : ¬ nI d = 0) : s_Mo_writeLetters g (nI m) (nI a) (nI b) (nI c) (nI d) 0 = (nI (m + 4), appL g m [a, b, c, d]) := by
  unfold s_Mo_writeLetters
  rw [if_neg hc, if_neg hd, if_pos rfl, nI_1, nI_1, nI_1, nI_1, nI_clamp (by omega), nI_clamp (by omega), nI_clamp (by omega), nI_clamp (by omega)]
  rfl
theorem wl5 {g : Nat → Int32} {m a b c d e : Nat} (hm : m ≤ 4100) (hc : ¬ nI c = 0) (hd : ¬ nI d = 0) (he : ¬ nI e = 0) : s_Mo_writeLetters g (nI m) (nI a) (nI b) (nI c) (nI d) (nI e) = (nI (m + 5), appL g m [a, b, c, d, e]) := by
  unfold s_Mo_writeLetters
  rw [if_neg hc, if_neg hd, if_neg he, nI_1, nI_1, nI_1, nI_1, nI_1, nI_clamp (by omega), nI_clamp (by omega), nI_clamp (by omega), nI_clamp (by omega), nI_clamp (by omega)]
  rfl
theorem mo_w5 {g : Nat → Int32} {m : Nat} (hm : m ≤ 4100) : s_Mo_writeWord g (nI m) 1 = (nI (m + 3), appL g m [108, 101, 116]) ∧ ok_Mo_writeWord g (nI m) 1 := by
  unfold s_Mo_writeWord ok_Mo_writeWord
  rw [if_pos rfl, if_pos rfl]
  exact ⟨wl3 (a := 108) (b := 101) (c := 116) hm (by decide), okL hm, trivial⟩
theorem mo_w6 {g : Nat → Int32} {m : Nat} (hm : m ≤ 4100) : s_Mo_writeWord g (nI m) 2 = (nI (m + 5), appL g m [99, 111, 117, 110, 116]) ∧ ok_Mo_writeWord g (nI m) 2 := by
  unfold s_Mo_writeWord ok_Mo_writeWord
  rw [if_neg (by decide), if_pos rfl, if_neg (by decide), if_pos rfl]
  exact ⟨wl5 (a := 99) (b := 111) (c := 117) (d := 110) (e := 116) hm (by decide) (by decide) (by decide), okL hm, trivial⟩
theorem mo_w7 {g : Nat → Int32} {m : Nat} (hm : m ≤ 4100) : s_Mo_writeWord g (nI m) 3 = (nI (m + 3), appL g m [115, 117, 109]) ∧ ok_Mo_writeWord g (nI m) 3 := by
  unfold s_Mo_writeWord ok_Mo_writeWord
  rw [if_neg (by decide), if_neg (by decide), if_pos rfl, if_neg (by decide), if_neg (by decide), if_pos rfl]
  exact ⟨wl3 (a := 115) (b := 117) (c := 109) hm (by decide), okL hm, trivial⟩
theorem mo_w8 {g : Nat → Int32} {m : Nat} (hm : m ≤ 4100) : s_Mo_writeWord g (nI m) 4 = (nI (m + 4), appL g m [98, 105, 110, 115]) ∧ ok_Mo_writeWord g (nI m) 4 := by
  unfold s_Mo_writeWord ok_Mo_writeWord
  rw [if_neg (by decide), if_neg (by decide), if_neg (by decide), if_pos rfl, if_neg (by decide), if_neg (by decide), if_neg (by decide), if_pos rfl]
  exact ⟨wl4 (a := 98) (b := 105) (c := 110) (d := 115) hm (by decide) (by decide), okL hm, trivial⟩
theorem mo_w9 {g : Nat → Int32} {m : Nat} (hm : m ≤ 4100) : s_Mo_writeWord g (nI m) 9 = (nI (m + 4), appL g m [102, 114, 111, 109]) ∧ ok_Mo_writeWord g (nI m) 9 := by
  unfold s_Mo_writeWord ok_Mo_writeWord
  rw [if_neg (by decide), if_neg (by decide), if_neg (by decide), if_neg (by decide), if_neg (by decide), if_neg (by decide), if_neg (by decide), if_neg (by decide), if_pos rfl, if_neg (by decide), if_neg (by decide), if_neg (by decide), if_neg (by decide), if_neg (by decide), if_neg (by decide), if_neg (by decide), if_neg (by decide), if_pos rfl]
  exact ⟨wl4 (a := 102) (b := 114) (c := 111) (d := 109) hm (by decide) (by decide), okL hm, trivial⟩
theorem mo_w10 {g : Nat → Int32} {m : Nat} (hm : m ≤ 4100) : s_Mo_writeWord g (nI m) 7 = (nI (m + 2), appL g m [116, 111]) ∧ ok_Mo_writeWord g (nI m) 7 := by
  unfold s_Mo_writeWord ok_Mo_writeWord
  rw [if_neg (by decide), if_neg (by decide), if_neg (by decide), if_neg (by decide), if_neg (by decide), if_neg (by decide), if_pos rfl, if_neg (by decide), if_neg (by decide), if_neg (by decide), if_neg (by decide), if_neg (by decide), if_neg (by decide), if_pos rfl]
  exact ⟨wl2 (a := 116) (b := 111) hm, okL hm, trivial⟩
theorem mo_w11 {g : Nat → Int32} {m : Nat} (hm : m ≤ 4100) : s_Mo_writeWord g (nI m) 8 = (nI (m + 2), appL g m [98, 121]) ∧ ok_Mo_writeWord g (nI m) 8 := by
  unfold s_Mo_writeWord ok_Mo_writeWord
  rw [if_neg (by decide), if_neg (by decide), if_neg (by decide), if_neg (by decide), if_neg (by decide), if_neg (by decide), if_neg (by decide), if_pos rfl, if_neg (by decide), if_neg (by decide), if_neg (by decide), if_neg (by decide), if_neg (by decide), if_neg (by decide), if_neg (by decide), if_pos rfl]
  exact ⟨wl2 (a := 98) (b := 121) hm, okL hm, trivial⟩
theorem mo_w12 {g : Nat → Int32} {m : Nat} (hm : m ≤ 4100) : s_Mo_writeWord g (nI m) 5 = (nI (m + 5), appL g m [119, 104, 101, 114, 101]) ∧ ok_Mo_writeWord g (nI m) 5 := by
  unfold s_Mo_writeWord ok_Mo_writeWord
  rw [if_neg (by decide), if_neg (by decide), if_neg (by decide), if_neg (by decide), if_pos rfl, if_neg (by decide), if_neg (by decide), if_neg (by decide), if_neg (by decide), if_pos rfl]
  exact ⟨wl5 (a := 119) (b := 104) (c := 101) (d := 114) (e := 101) hm (by decide) (by decide) (by decide), okL hm, trivial⟩
theorem mo_w13 {g : Nat → Int32} {m : Nat} (hm : m ≤ 4100) : s_Mo_writeWord g (nI m) 6 = (nI (m + 2), appL g m [105, 110]) ∧ ok_Mo_writeWord g (nI m) 6 := by
  unfold s_Mo_writeWord ok_Mo_writeWord
  rw [if_neg (by decide), if_neg (by decide), if_neg (by decide), if_neg (by decide), if_neg (by decide), if_pos rfl, if_neg (by decide), if_neg (by decide), if_neg (by decide), if_neg (by decide), if_neg (by decide), if_pos rfl]
  exact ⟨wl2 (a := 105) (b := 110) hm, okL hm, trivial⟩
theorem mo_w14 {g : Nat → Int32} {m : Nat} (hm : m ≤ 4100) : s_Mo_writeWord g (nI m) 11 = (nI (m + 3), appL g m [97, 110, 100]) ∧ ok_Mo_writeWord g (nI m) 11 := by
  unfold s_Mo_writeWord ok_Mo_writeWord
  rw [if_neg (by decide), if_neg (by decide), if_neg (by decide), if_neg (by decide), if_neg (by decide), if_neg (by decide), if_neg (by decide), if_neg (by decide), if_neg (by decide), if_neg (by decide), if_pos rfl, if_neg (by decide), if_neg (by decide), if_neg (by decide), if_neg (by decide), if_neg (by decide), if_neg (by decide), if_neg (by decide), if_neg (by decide), if_neg (by decide), if_neg (by decide), if_pos rfl]
  exact ⟨wl3 (a := 97) (b := 110) (c := 100) hm (by decide), okL hm, trivial⟩
theorem mo_w15 {g : Nat → Int32} {m : Nat} (hm : m ≤ 4100) : s_Mo_writeWord g (nI m) 12 = (nI (m + 2), appL g m [111, 114]) ∧ ok_Mo_writeWord g (nI m) 12 := by
  unfold s_Mo_writeWord ok_Mo_writeWord
  rw [if_neg (by decide), if_neg (by decide), if_neg (by decide), if_neg (by decide), if_neg (by decide), if_neg (by decide), if_neg (by decide), if_neg (by decide), if_neg (by decide), if_neg (by decide), if_neg (by decide), if_neg (by decide), if_neg (by decide), if_neg (by decide), if_neg (by decide), if_neg (by decide), if_neg (by decide), if_neg (by decide), if_neg (by decide), if_neg (by decide), if_neg (by decide), if_neg (by decide)]
  exact ⟨wl2 (a := 111) (b := 114) hm, okL hm, trivial⟩
theorem mo_w16 {g : Nat → Int32} {m : Nat} (hm : m ≤ 4100) : s_Mo_writeWord g (nI m) 10 = (nI (m + 3), appL g m [110, 111, 116]) ∧ ok_Mo_writeWord g (nI m) 10 := by
  unfold s_Mo_writeWord ok_Mo_writeWord
  rw [if_neg (by decide), if_neg (by decide), if_neg (by decide), if_neg (by decide), if_neg (by decide), if_neg (by decide), if_neg (by decide), if_neg (by decide), if_neg (by decide), if_pos rfl, if_neg (by decide), if_neg (by decide), if_neg (by decide), if_neg (by decide), if_neg (by decide), if_neg (by decide), if_neg (by decide), if_neg (by decide), if_neg (by decide), if_pos rfl]
  exact ⟨wl3 (a := 110) (b := 111) (c := 116) hm (by decide), okL hm, trivial⟩
theorem mo_w17 {g : Nat → Int32} {m : Nat} (hm : m ≤ 4100) : s_Mo_writeSign g (nI m) 20 = (nI (m + 2), appL g m [60, 61]) ∧ ok_Mo_writeSign g (nI m) 20 := by
  unfold s_Mo_writeSign ok_Mo_writeSign
  rw [if_pos rfl, if_pos rfl]
  exact ⟨wl2 (a := 60) (b := 61) hm, okL hm, trivial⟩
theorem mo_w18 {g : Nat → Int32} {m : Nat} (hm : m ≤ 4100) : s_Mo_writeSign g (nI m) 21 = (nI (m + 2), appL g m [62, 61]) ∧ ok_Mo_writeSign g (nI m) 21 := by
  unfold s_Mo_writeSign ok_Mo_writeSign
  rw [if_neg (by decide), if_pos rfl, if_neg (by decide), if_pos rfl]
  exact ⟨wl2 (a := 62) (b := 61) hm, okL hm, trivial⟩
theorem mo_w19 {g : Nat → Int32} {m : Nat} (hm : m ≤ 4100) : s_Mo_writeSign g (nI m) 22 = (nI (m + 2), appL g m [60, 62]) ∧ ok_Mo_writeSign g (nI m) 22 := by
  unfold s_Mo_writeSign ok_Mo_writeSign
  rw [if_neg (by decide), if_neg (by decide), if_pos rfl, if_neg (by decide), if_neg (by decide), if_pos rfl]
  exact ⟨wl2 (a := 60) (b := 62) hm, okL hm, trivial⟩
theorem mo_w20 {g : Nat → Int32} {m : Nat} (hm : m ≤ 4100) : s_Mo_writeSign g (nI m) 18 = (nI (m + 1), appL g m [60]) ∧ ok_Mo_writeSign g (nI m) 18 := by
  unfold s_Mo_writeSign ok_Mo_writeSign
  rw [if_neg (by decide), if_neg (by decide), if_neg (by decide), if_neg (by decide), if_neg (by decide), if_pos rfl, if_neg (by decide), if_neg (by decide), if_neg (by decide), if_neg (by decide), if_neg (by decide), if_pos rfl]
  rw [nI_1, nI_clamp (by omega)]
  exact ⟨rfl, up_of (by omega) (by decide), trivial⟩
theorem mo_w21 {g : Nat → Int32} {m : Nat} (hm : m ≤ 4100) : s_Mo_writeSign g (nI m) 19 = (nI (m + 1), appL g m [62]) ∧ ok_Mo_writeSign g (nI m) 19 := by
  unfold s_Mo_writeSign ok_Mo_writeSign
  rw [if_neg (by decide), if_neg (by decide), if_neg (by decide), if_neg (by decide), if_neg (by decide), if_neg (by decide), if_pos rfl, if_neg (by decide), if_neg (by decide), if_neg (by decide), if_neg (by decide), if_neg (by decide), if_neg (by decide), if_pos rfl]
  rw [nI_1, nI_clamp (by omega)]
  exact ⟨rfl, up_of (by omega) (by decide), trivial⟩
theorem mo_w22 {g : Nat → Int32} {m : Nat} (hm : m ≤ 4100) : s_Mo_writeSign g (nI m) 17 = (nI (m + 1), appL g m [61]) ∧ ok_Mo_writeSign g (nI m) 17 := by
  unfold s_Mo_writeSign ok_Mo_writeSign
  rw [if_neg (by decide), if_neg (by decide), if_neg (by decide), if_neg (by decide), if_pos rfl, if_neg (by decide), if_neg (by decide), if_neg (by decide), if_neg (by decide), if_pos rfl]
  rw [nI_1, nI_clamp (by omega)]
  exact ⟨rfl, up_of (by omega) (by decide), trivial⟩
theorem mo_w23 {g : Nat → Int32} {m : Nat} (hm : m ≤ 4100) : s_Mo_writeSign g (nI m) 23 = (nI (m + 1), appL g m [43]) ∧ ok_Mo_writeSign g (nI m) 23 := by
  unfold s_Mo_writeSign ok_Mo_writeSign
  rw [if_neg (by decide), if_neg (by decide), if_neg (by decide), if_neg (by decide), if_neg (by decide), if_neg (by decide), if_neg (by decide), if_pos rfl, if_neg (by decide), if_neg (by decide), if_neg (by decide), if_neg (by decide), if_neg (by decide), if_neg (by decide), if_neg (by decide), if_pos rfl]
  rw [nI_1, nI_clamp (by omega)]
  exact ⟨rfl, up_of (by omega) (by decide), trivial⟩
theorem mo_w24 {g : Nat → Int32} {m : Nat} (hm : m ≤ 4100) : s_Mo_writeSign g (nI m) 24 = (nI (m + 1), appL g m [45]) ∧ ok_Mo_writeSign g (nI m) 24 := by
  unfold s_Mo_writeSign ok_Mo_writeSign
  rw [if_neg (by decide), if_neg (by decide), if_neg (by decide), if_neg (by decide), if_neg (by decide), if_neg (by decide), if_neg (by decide), if_neg (by decide), if_pos rfl, if_neg (by decide), if_neg (by decide), if_neg (by decide), if_neg (by decide), if_neg (by decide), if_neg (by decide), if_neg (by decide), if_neg (by decide), if_pos rfl]
  rw [nI_1, nI_clamp (by omega)]
  exact ⟨rfl, up_of (by omega) (by decide), trivial⟩
theorem mo_w25 {g : Nat → Int32} {m : Nat} (hm : m ≤ 4100) : s_Mo_writeSign g (nI m) 25 = (nI (m + 1), appL g m [42]) ∧ ok_Mo_writeSign g (nI m) 25 := by
  unfold s_Mo_writeSign ok_Mo_writeSign
  rw [if_neg (by decide), if_neg (by decide), if_neg (by decide), if_neg (by decide), if_neg (by decide), if_neg (by decide), if_neg (by decide), if_neg (by decide), if_neg (by decide), if_pos rfl, if_neg (by decide), if_neg (by decide), if_neg (by decide), if_neg (by decide), if_neg (by decide), if_neg (by decide), if_neg (by decide), if_neg (by decide), if_neg (by decide), if_pos rfl]
  rw [nI_1, nI_clamp (by omega)]
  exact ⟨rfl, up_of (by omega) (by decide), trivial⟩
theorem mo_w26 {g : Nat → Int32} {m : Nat} (hm : m ≤ 4100) : s_Mo_writeSign g (nI m) 16 = (nI (m + 1), appL g m [59]) ∧ ok_Mo_writeSign g (nI m) 16 := by
  unfold s_Mo_writeSign ok_Mo_writeSign
  rw [if_neg (by decide), if_neg (by decide), if_neg (by decide), if_pos rfl, if_neg (by decide), if_neg (by decide), if_neg (by decide), if_pos rfl]
  rw [nI_1, nI_clamp (by omega)]
  exact ⟨rfl, up_of (by omega) (by decide), trivial⟩
theorem mo_w27 {g : Nat → Int32} {m : Nat} (hm : m ≤ 4100) : s_Mo_writeSign g (nI m) 26 = (nI (m + 1), appL g m [40]) ∧ ok_Mo_writeSign g (nI m) 26 := by
  unfold s_Mo_writeSign ok_Mo_writeSign
  rw [if_neg (by decide), if_neg (by decide), if_neg (by decide), if_neg (by decide), if_neg (by decide), if_neg (by decide), if_neg (by decide), if_neg (by decide), if_neg (by decide), if_neg (by decide), if_pos rfl, if_neg (by decide), if_neg (by decide), if_neg (by decide), if_neg (by decide), if_neg (by decide), if_neg (by decide), if_neg (by decide), if_neg (by decide), if_neg (by decide), if_neg (by decide), if_pos rfl]
  rw [nI_1, nI_clamp (by omega)]
  exact ⟨rfl, up_of (by omega) (by decide), trivial⟩
theorem mo_w28 {g : Nat → Int32} {m : Nat} (hm : m ≤ 4100) : s_Mo_writeSign g (nI m) 27 = (nI (m + 1), appL g m [41]) ∧ ok_Mo_writeSign g (nI m) 27 := by
  unfold s_Mo_writeSign ok_Mo_writeSign
  rw [if_neg (by decide), if_neg (by decide), if_neg (by decide), if_neg (by decide), if_neg (by decide), if_neg (by decide), if_neg (by decide), if_neg (by decide), if_neg (by decide), if_neg (by decide), if_neg (by decide), if_pos rfl, if_neg (by decide), if_neg (by decide), if_neg (by decide), if_neg (by decide), if_neg (by decide), if_neg (by decide), if_neg (by decide), if_neg (by decide), if_neg (by decide), if_neg (by decide), if_neg (by decide), if_pos rfl]
  rw [nI_1, nI_clamp (by omega)]
  exact ⟨rfl, up_of (by omega) (by decide), trivial⟩
theorem mo_w29 {g : Nat → Int32} {m : Nat} (hm : m ≤ 4100) : s_Mo_writeSign g (nI m) 28 = (nI (m + 1), appL g m [91]) ∧ ok_Mo_writeSign g (nI m) 28 := by
  unfold s_Mo_writeSign ok_Mo_writeSign
  rw [if_neg (by decide), if_neg (by decide), if_neg (by decide), if_neg (by decide), if_neg (by decide), if_neg (by decide), if_neg (by decide), if_neg (by decide), if_neg (by decide), if_neg (by decide), if_neg (by decide), if_neg (by decide), if_pos rfl, if_neg (by decide), if_neg (by decide), if_neg (by decide), if_neg (by decide), if_neg (by decide), if_neg (by decide), if_neg (by decide), if_neg (by decide), if_neg (by decide), if_neg (by decide), if_neg (by decide), if_neg (by decide), if_pos rfl]
  rw [nI_1, nI_clamp (by omega)]
  exact ⟨rfl, up_of (by omega) (by decide), trivial⟩
theorem mo_w30 {g : Nat → Int32} {m : Nat} (hm : m ≤ 4100) : s_Mo_writeSign g (nI m) 29 = (nI (m + 1), appL g m [93]) ∧ ok_Mo_writeSign g (nI m) 29 := by
  unfold s_Mo_writeSign ok_Mo_writeSign
  rw [if_neg (by decide), if_neg (by decide), if_neg (by decide), if_neg (by decide), if_neg (by decide), if_neg (by decide), if_neg (by decide), if_neg (by decide), if_neg (by decide), if_neg (by decide), if_neg (by decide), if_neg (by decide), if_neg (by decide), if_neg (by decide), if_neg (by decide), if_neg (by decide), if_neg (by decide), if_neg (by decide), if_neg (by decide), if_neg (by decide), if_neg (by decide), if_neg (by decide), if_neg (by decide), if_neg (by decide), if_neg (by decide), if_neg (by decide)]
  rw [nI_1, nI_clamp (by omega)]
  exact ⟨rfl, up_of (by omega) (by decide), trivial⟩
/-! one token -/
def tw (k v : Nat) : List Nat := if k = 2 then dl v 9 else if k = 3 ∨ k = 4 then [97 + v] else wd k
def tokOK (k v : Nat) : Prop := 2 ≤ k ∧ k < 31 ∧ v < 2 ^ 31 ∧ (k = 3 → v < 6) ∧ (k = 4 → 6 ≤ v ∧ v < 26) ∧ (5 ≤ k → v = 0)
theorem nI_ne {k j : Nat} (hk : k < 2 ^ 31) (hj : j < 2 ^ 31) (h : k ≠ j) : ¬ nI k = nI j := ne_nI hk hj h
theorem one_PQ {k v m : Nat} {f : Nat → Int32} (h : tokOK k v) (hm : m + (tw k v).length ≤ 4000) : s_Tok_writeOne f (nI m) (nI k) (nI v) = (nI (m + (tw k v).length), appL f m (tw k v)) ∧ ok_Tok_writeOne f (nI m) (nI k) (nI v) := by
  obtain ⟨h1, h2, h3, h4, h5, h6⟩ := h
  unfold s_Tok_writeOne ok_Tok_writeOne
  have hu : up (nI m) 4000 := up_of (by omega) (by decide)
  unfold tw at hm ⊢
  by_cases c2 : k = 2
  · subst c2
    rw [if_pos rfl] at hm ⊢
    rw [if_pos (show nI 2 = 2 from rfl), if_pos (show nI 2 = 2 from rfl)]
    have h9 := addNum h3 9 m ((1000000000 : Int32).toInt.toNat + 1 - 11) f (by decide) hm
    rw [show 9 + 2 + ((1000000000 : Int32).toInt.toNat + 1 - 11) = (1000000000 : Int32).toInt.toNat + 1 from by decide] at h9
    have h8 : lp_Out_addNumber (nI v) ((1000000000 : Int32).toInt.toNat + 1) (1000000000 : Int32) f (nI m) = (nI (m + (dl v 9).length), appL f m (dl v 9)) := h9
    dsimp only
    rw [h8]
    exact ⟨rfl, hu, trivial⟩
  · rw [if_neg c2] at hm ⊢
    rw [if_neg (neR (N := 2) (j := 2) rfl (by omega) (by decide) c2), if_neg (neR (N := 2) (j := 2) rfl (by omega) (by decide) c2)]
    by_cases c3 : k = 3 ∨ k = 4
    · rw [if_pos c3] at hm ⊢
      have hm : m + 1 ≤ 4000 := hm
      have hv : v < 26 := by
        rcases c3 with c | c
        · have := h4 c; omega
        · exact (h5 c).2
      have ea : s_Out_add f (nI m) (((97 + nI v).toUInt32 % 65536).toInt32) = (nI (m + 1), upd f m (nI (97 + v))) := by
        rw [show (97 + nI v : Int32) = nI (97 + v) from nI_add 97 v, pk_char, pk_tn (by omega), Nat.mod_eq_of_lt (by omega)]
        exact outAdd (by omega) (by omega)
      dsimp only
      rw [ea]
      rcases c3 with c | c
      · subst c
        rw [if_pos (show nI 3 = 3 from rfl), if_pos (show nI 3 = 3 from rfl)]
        exact ⟨rfl, hu, trivial⟩
      · subst c
        rw [if_neg (by decide), if_pos (show nI 4 = 4 from rfl), if_neg (by decide), if_pos (show nI 4 = 4 from rfl)]
        exact ⟨rfl, hu, trivial⟩
    · rw [if_neg c3] at hm ⊢
      rw [if_neg (neR (N := 3) (j := 3) rfl (by omega) (by decide) (by omega)), if_neg (neR (N := 4) (j := 4) rfl (by omega) (by decide) (by omega)), if_neg (neR (N := 3) (j := 3) rfl (by omega) (by decide) (by omega)), if_neg (neR (N := 4) (j := 4) rfl (by omega) (by decide) (by omega))]
      obtain ⟨a1, a2⟩ := addWord_k (f := f) h2 (by omega) hm
      dsimp only
      rw [a1]
      exact ⟨rfl, a2, trivial⟩
theorem one_Mo {k v m t : Nat} {K V g : Nat → Int32} (h : tokOK k v) (ht : t < 2000) (hK : K t = nI (km k)) (hV : V t = nI v) (hm : m ≤ 4000) : s_Mo_writeToken K V g (nI m) (nI t) = (nI (m + (tw k v).length), appL g m (tw k v)) ∧ ok_Mo_writeToken K V g (nI m) (nI t) := by
  obtain ⟨h1, h2, h3, h4, h5, h6⟩ := h
  unfold s_Mo_writeToken ok_Mo_writeToken
  rw [nI_clamp (show t < 2 ^ 31 by omega), hK, hV]
  have hi : vp_in (nI t) 2000 := vp_in_nI ht (by decide)
  have hu : up (nI m) 4199 := up_of (by omega) (by decide)
  have hc : k = 2 ∨ k = 3 ∨ k = 4 ∨ k = 5 ∨ k = 6 ∨ k = 7 ∨ k = 8 ∨ k = 9 ∨ k = 10 ∨ k = 11 ∨ k = 12 ∨ k = 13 ∨ k = 14 ∨ k = 15 ∨ k = 16 ∨ k = 17 ∨ k = 18 ∨ k = 19 ∨ k = 20 ∨ k = 21 ∨ k = 22 ∨ k = 23 ∨ k = 24 ∨ k = 25 ∨ k = 26 ∨ k = 27 ∨ k = 28 ∨ k = 29 ∨ k = 30 := by omega
  rcases hc with rfl | rfl | rfl | rfl | rfl | rfl | rfl | rfl | rfl | rfl | rfl | rfl | rfl | rfl | rfl | rfl | rfl | rfl | rfl | rfl | rfl | rfl | rfl | rfl | rfl | rfl | rfl | rfl | rfl
  · show (if (12 : Int32) < 15 then _ else _) = _ ∧ (_ ∧ (if (12 : Int32) < 15 then _ else _))
    rw [if_pos (by decide), if_neg (by decide), if_neg (by decide), if_pos (by decide), if_pos (by decide), if_neg (by decide), if_neg (by decide), if_pos (by decide)]
    obtain ⟨a1, a2⟩ := moNum (g := g) h3 hm
    dsimp only
    rw [a1]
    exact ⟨rfl, hi, hi, a2, trivial⟩
  · show (if (12 : Int32) < 13 then _ else _) = _ ∧ (_ ∧ (if (12 : Int32) < 13 then _ else _))
    rw [if_pos (by decide), if_pos (by decide), if_pos (by decide), if_pos (by decide), show (97 + nI v : Int32) = nI (97 + v) from nI_add 97 v, nI_1, nI_clamp (by omega)]
    exact ⟨rfl, hi, hi, hu, trivial⟩
  · show (if (12 : Int32) < 14 then _ else _) = _ ∧ (_ ∧ (if (12 : Int32) < 14 then _ else _))
    rw [if_pos (by decide), if_neg (by decide), if_pos (by decide), if_pos (by decide), if_neg (by decide), if_pos (by decide), show (97 + nI v : Int32) = nI (97 + v) from nI_add 97 v, nI_1, nI_clamp (by omega)]
    exact ⟨rfl, hi, hi, hu, trivial⟩
  · show (if (12 : Int32) < 1 then _ else _) = _ ∧ (_ ∧ (if (12 : Int32) < 1 then _ else _))
    rw [if_neg (by decide), if_neg (by decide)]
    obtain ⟨a1, a2⟩ := mo_w5 (g := g) (m := m) (by omega)
    have a1' : s_Mo_writeWord g (nI m) (nI (km 5)) = (nI (m + 3), appL g m [108, 101, 116]) := a1
    dsimp only
    rw [a1']
    exact ⟨rfl, hi, a2, trivial⟩
  · show (if (12 : Int32) < 2 then _ else _) = _ ∧ (_ ∧ (if (12 : Int32) < 2 then _ else _))
    rw [if_neg (by decide), if_neg (by decide)]
    obtain ⟨a1, a2⟩ := mo_w6 (g := g) (m := m) (by omega)
    have a1' : s_Mo_writeWord g (nI m) (nI (km 6)) = (nI (m + 5), appL g m [99, 111, 117, 110, 116]) := a1
    dsimp only
    rw [a1']
    exact ⟨rfl, hi, a2, trivial⟩
  · show (if (12 : Int32) < 3 then _ else _) = _ ∧ (_ ∧ (if (12 : Int32) < 3 then _ else _))
    rw [if_neg (by decide), if_neg (by decide)]
    obtain ⟨a1, a2⟩ := mo_w7 (g := g) (m := m) (by omega)
    have a1' : s_Mo_writeWord g (nI m) (nI (km 7)) = (nI (m + 3), appL g m [115, 117, 109]) := a1
    dsimp only
    rw [a1']
    exact ⟨rfl, hi, a2, trivial⟩
  · show (if (12 : Int32) < 4 then _ else _) = _ ∧ (_ ∧ (if (12 : Int32) < 4 then _ else _))
    rw [if_neg (by decide), if_neg (by decide)]
    obtain ⟨a1, a2⟩ := mo_w8 (g := g) (m := m) (by omega)
    have a1' : s_Mo_writeWord g (nI m) (nI (km 8)) = (nI (m + 4), appL g m [98, 105, 110, 115]) := a1
    dsimp only
    rw [a1']
    exact ⟨rfl, hi, a2, trivial⟩
  · show (if (12 : Int32) < 9 then _ else _) = _ ∧ (_ ∧ (if (12 : Int32) < 9 then _ else _))
    rw [if_neg (by decide), if_neg (by decide)]
    obtain ⟨a1, a2⟩ := mo_w9 (g := g) (m := m) (by omega)
    have a1' : s_Mo_writeWord g (nI m) (nI (km 9)) = (nI (m + 4), appL g m [102, 114, 111, 109]) := a1
    dsimp only
    rw [a1']
    exact ⟨rfl, hi, a2, trivial⟩
  · show (if (12 : Int32) < 7 then _ else _) = _ ∧ (_ ∧ (if (12 : Int32) < 7 then _ else _))
    rw [if_neg (by decide), if_neg (by decide)]
    obtain ⟨a1, a2⟩ := mo_w10 (g := g) (m := m) (by omega)
    have a1' : s_Mo_writeWord g (nI m) (nI (km 10)) = (nI (m + 2), appL g m [116, 111]) := a1
    dsimp only
    rw [a1']
    exact ⟨rfl, hi, a2, trivial⟩
  · show (if (12 : Int32) < 8 then _ else _) = _ ∧ (_ ∧ (if (12 : Int32) < 8 then _ else _))
    rw [if_neg (by decide), if_neg (by decide)]
    obtain ⟨a1, a2⟩ := mo_w11 (g := g) (m := m) (by omega)
    have a1' : s_Mo_writeWord g (nI m) (nI (km 11)) = (nI (m + 2), appL g m [98, 121]) := a1
    dsimp only
    rw [a1']
    exact ⟨rfl, hi, a2, trivial⟩
  · show (if (12 : Int32) < 5 then _ else _) = _ ∧ (_ ∧ (if (12 : Int32) < 5 then _ else _))
    rw [if_neg (by decide), if_neg (by decide)]
    obtain ⟨a1, a2⟩ := mo_w12 (g := g) (m := m) (by omega)
    have a1' : s_Mo_writeWord g (nI m) (nI (km 12)) = (nI (m + 5), appL g m [119, 104, 101, 114, 101]) := a1
    dsimp only
    rw [a1']
    exact ⟨rfl, hi, a2, trivial⟩
  · show (if (12 : Int32) < 6 then _ else _) = _ ∧ (_ ∧ (if (12 : Int32) < 6 then _ else _))
    rw [if_neg (by decide), if_neg (by decide)]
    obtain ⟨a1, a2⟩ := mo_w13 (g := g) (m := m) (by omega)
    have a1' : s_Mo_writeWord g (nI m) (nI (km 13)) = (nI (m + 2), appL g m [105, 110]) := a1
    dsimp only
    rw [a1']
    exact ⟨rfl, hi, a2, trivial⟩
  · show (if (12 : Int32) < 11 then _ else _) = _ ∧ (_ ∧ (if (12 : Int32) < 11 then _ else _))
    rw [if_neg (by decide), if_neg (by decide)]
    obtain ⟨a1, a2⟩ := mo_w14 (g := g) (m := m) (by omega)
    have a1' : s_Mo_writeWord g (nI m) (nI (km 14)) = (nI (m + 3), appL g m [97, 110, 100]) := a1
    dsimp only
    rw [a1']
    exact ⟨rfl, hi, a2, trivial⟩
  · show (if (12 : Int32) < 12 then _ else _) = _ ∧ (_ ∧ (if (12 : Int32) < 12 then _ else _))
    rw [if_neg (by decide), if_neg (by decide)]
    obtain ⟨a1, a2⟩ := mo_w15 (g := g) (m := m) (by omega)
    have a1' : s_Mo_writeWord g (nI m) (nI (km 15)) = (nI (m + 2), appL g m [111, 114]) := a1
    dsimp only
    rw [a1']
    exact ⟨rfl, hi, a2, trivial⟩
  · show (if (12 : Int32) < 10 then _ else _) = _ ∧ (_ ∧ (if (12 : Int32) < 10 then _ else _))
    rw [if_neg (by decide), if_neg (by decide)]
    obtain ⟨a1, a2⟩ := mo_w16 (g := g) (m := m) (by omega)
    have a1' : s_Mo_writeWord g (nI m) (nI (km 16)) = (nI (m + 3), appL g m [110, 111, 116]) := a1
    dsimp only
    rw [a1']
    exact ⟨rfl, hi, a2, trivial⟩
  · show (if (12 : Int32) < 20 then _ else _) = _ ∧ (_ ∧ (if (12 : Int32) < 20 then _ else _))
    rw [if_pos (by decide), if_neg (by decide), if_neg (by decide), if_neg (by decide), if_pos (by decide), if_neg (by decide), if_neg (by decide), if_neg (by decide)]
    obtain ⟨a1, a2⟩ := mo_w17 (g := g) (m := m) (by omega)
    have a1' : s_Mo_writeSign g (nI m) (nI (km 17)) = (nI (m + 2), appL g m [60, 61]) := a1
    dsimp only
    rw [a1']
    exact ⟨rfl, hi, a2, trivial⟩
  · show (if (12 : Int32) < 21 then _ else _) = _ ∧ (_ ∧ (if (12 : Int32) < 21 then _ else _))
    rw [if_pos (by decide), if_neg (by decide), if_neg (by decide), if_neg (by decide), if_pos (by decide), if_neg (by decide), if_neg (by decide), if_neg (by decide)]
    obtain ⟨a1, a2⟩ := mo_w18 (g := g) (m := m) (by omega)
    have a1' : s_Mo_writeSign g (nI m) (nI (km 18)) = (nI (m + 2), appL g m [62, 61]) := a1
    dsimp only
    rw [a1']
    exact ⟨rfl, hi, a2, trivial⟩
  · show (if (12 : Int32) < 22 then _ else _) = _ ∧ (_ ∧ (if (12 : Int32) < 22 then _ else _))
    rw [if_pos (by decide), if_neg (by decide), if_neg (by decide), if_neg (by decide), if_pos (by decide), if_neg (by decide), if_neg (by decide), if_neg (by decide)]
    obtain ⟨a1, a2⟩ := mo_w19 (g := g) (m := m) (by omega)
    have a1' : s_Mo_writeSign g (nI m) (nI (km 19)) = (nI (m + 2), appL g m [60, 62]) := a1
    dsimp only
    rw [a1']
    exact ⟨rfl, hi, a2, trivial⟩
  · show (if (12 : Int32) < 18 then _ else _) = _ ∧ (_ ∧ (if (12 : Int32) < 18 then _ else _))
    rw [if_pos (by decide), if_neg (by decide), if_neg (by decide), if_neg (by decide), if_pos (by decide), if_neg (by decide), if_neg (by decide), if_neg (by decide)]
    obtain ⟨a1, a2⟩ := mo_w20 (g := g) (m := m) (by omega)
    have a1' : s_Mo_writeSign g (nI m) (nI (km 20)) = (nI (m + 1), appL g m [60]) := a1
    dsimp only
    rw [a1']
    exact ⟨rfl, hi, a2, trivial⟩
  · show (if (12 : Int32) < 19 then _ else _) = _ ∧ (_ ∧ (if (12 : Int32) < 19 then _ else _))
    rw [if_pos (by decide), if_neg (by decide), if_neg (by decide), if_neg (by decide), if_pos (by decide), if_neg (by decide), if_neg (by decide), if_neg (by decide)]
    obtain ⟨a1, a2⟩ := mo_w21 (g := g) (m := m) (by omega)
    have a1' : s_Mo_writeSign g (nI m) (nI (km 21)) = (nI (m + 1), appL g m [62]) := a1
    dsimp only
    rw [a1']
    exact ⟨rfl, hi, a2, trivial⟩
  · show (if (12 : Int32) < 17 then _ else _) = _ ∧ (_ ∧ (if (12 : Int32) < 17 then _ else _))
    rw [if_pos (by decide), if_neg (by decide), if_neg (by decide), if_neg (by decide), if_pos (by decide), if_neg (by decide), if_neg (by decide), if_neg (by decide)]
    obtain ⟨a1, a2⟩ := mo_w22 (g := g) (m := m) (by omega)
    have a1' : s_Mo_writeSign g (nI m) (nI (km 22)) = (nI (m + 1), appL g m [61]) := a1
    dsimp only
    rw [a1']
    exact ⟨rfl, hi, a2, trivial⟩
  · show (if (12 : Int32) < 23 then _ else _) = _ ∧ (_ ∧ (if (12 : Int32) < 23 then _ else _))
    rw [if_pos (by decide), if_neg (by decide), if_neg (by decide), if_neg (by decide), if_pos (by decide), if_neg (by decide), if_neg (by decide), if_neg (by decide)]
    obtain ⟨a1, a2⟩ := mo_w23 (g := g) (m := m) (by omega)
    have a1' : s_Mo_writeSign g (nI m) (nI (km 23)) = (nI (m + 1), appL g m [43]) := a1
    dsimp only
    rw [a1']
    exact ⟨rfl, hi, a2, trivial⟩
  · show (if (12 : Int32) < 24 then _ else _) = _ ∧ (_ ∧ (if (12 : Int32) < 24 then _ else _))
    rw [if_pos (by decide), if_neg (by decide), if_neg (by decide), if_neg (by decide), if_pos (by decide), if_neg (by decide), if_neg (by decide), if_neg (by decide)]
    obtain ⟨a1, a2⟩ := mo_w24 (g := g) (m := m) (by omega)
    have a1' : s_Mo_writeSign g (nI m) (nI (km 24)) = (nI (m + 1), appL g m [45]) := a1
    dsimp only
    rw [a1']
    exact ⟨rfl, hi, a2, trivial⟩
  · show (if (12 : Int32) < 25 then _ else _) = _ ∧ (_ ∧ (if (12 : Int32) < 25 then _ else _))
    rw [if_pos (by decide), if_neg (by decide), if_neg (by decide), if_neg (by decide), if_pos (by decide), if_neg (by decide), if_neg (by decide), if_neg (by decide)]
    obtain ⟨a1, a2⟩ := mo_w25 (g := g) (m := m) (by omega)
    have a1' : s_Mo_writeSign g (nI m) (nI (km 25)) = (nI (m + 1), appL g m [42]) := a1
    dsimp only
    rw [a1']
    exact ⟨rfl, hi, a2, trivial⟩
  · show (if (12 : Int32) < 16 then _ else _) = _ ∧ (_ ∧ (if (12 : Int32) < 16 then _ else _))
    rw [if_pos (by decide), if_neg (by decide), if_neg (by decide), if_neg (by decide), if_pos (by decide), if_neg (by decide), if_neg (by decide), if_neg (by decide)]
    obtain ⟨a1, a2⟩ := mo_w26 (g := g) (m := m) (by omega)
    have a1' : s_Mo_writeSign g (nI m) (nI (km 26)) = (nI (m + 1), appL g m [59]) := a1
    dsimp only
    rw [a1']
    exact ⟨rfl, hi, a2, trivial⟩
  · show (if (12 : Int32) < 26 then _ else _) = _ ∧ (_ ∧ (if (12 : Int32) < 26 then _ else _))
    rw [if_pos (by decide), if_neg (by decide), if_neg (by decide), if_neg (by decide), if_pos (by decide), if_neg (by decide), if_neg (by decide), if_neg (by decide)]
    obtain ⟨a1, a2⟩ := mo_w27 (g := g) (m := m) (by omega)
    have a1' : s_Mo_writeSign g (nI m) (nI (km 27)) = (nI (m + 1), appL g m [40]) := a1
    dsimp only
    rw [a1']
    exact ⟨rfl, hi, a2, trivial⟩
  · show (if (12 : Int32) < 27 then _ else _) = _ ∧ (_ ∧ (if (12 : Int32) < 27 then _ else _))
    rw [if_pos (by decide), if_neg (by decide), if_neg (by decide), if_neg (by decide), if_pos (by decide), if_neg (by decide), if_neg (by decide), if_neg (by decide)]
    obtain ⟨a1, a2⟩ := mo_w28 (g := g) (m := m) (by omega)
    have a1' : s_Mo_writeSign g (nI m) (nI (km 28)) = (nI (m + 1), appL g m [41]) := a1
    dsimp only
    rw [a1']
    exact ⟨rfl, hi, a2, trivial⟩
  · show (if (12 : Int32) < 28 then _ else _) = _ ∧ (_ ∧ (if (12 : Int32) < 28 then _ else _))
    rw [if_pos (by decide), if_neg (by decide), if_neg (by decide), if_neg (by decide), if_pos (by decide), if_neg (by decide), if_neg (by decide), if_neg (by decide)]
    obtain ⟨a1, a2⟩ := mo_w29 (g := g) (m := m) (by omega)
    have a1' : s_Mo_writeSign g (nI m) (nI (km 29)) = (nI (m + 1), appL g m [91]) := a1
    dsimp only
    rw [a1']
    exact ⟨rfl, hi, a2, trivial⟩
  · show (if (12 : Int32) < 29 then _ else _) = _ ∧ (_ ∧ (if (12 : Int32) < 29 then _ else _))
    rw [if_pos (by decide), if_neg (by decide), if_neg (by decide), if_neg (by decide), if_pos (by decide), if_neg (by decide), if_neg (by decide), if_neg (by decide)]
    obtain ⟨a1, a2⟩ := mo_w30 (g := g) (m := m) (by omega)
    have a1' : s_Mo_writeSign g (nI m) (nI (km 30)) = (nI (m + 1), appL g m [93]) := a1
    dsimp only
    rw [a1']
    exact ⟨rfl, hi, a2, trivial⟩
