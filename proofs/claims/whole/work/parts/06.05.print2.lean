/-! print: all tokens -/
def TokR (K V : Nat → Int32) (n : Nat) (SK SV : Nat → Int32) (pos : Nat → Nat) : Prop :=
  n ≤ 2000 ∧ pos n ≤ 2000 ∧ ∀ t, t < n → ∃ k v : Nat, tokOK k v ∧ K t = nI k ∧ V t = nI v ∧ SK t = nI (km k) ∧ SV t = nI v ∧ pos t + (tw k v).length ≤ pos (t + 1) ∧ (k = 11 → t + 1 < n)
theorem TokR.mono {K V SK SV : Nat → Int32} {n : Nat} {pos : Nat → Nat} (h : TokR K V n SK SV pos) : ∀ r t, t + r = n → pos t ≤ pos n := by
  intro r
  induction r with
  | zero => intro t ht; rw [show t = n from by omega]; exact Nat.le_refl _
  | succ r ih =>
    intro t ht
    obtain ⟨k, v, -, -, -, -, -, h1, -⟩ := h.2.2 t (by omega)
    have := ih (t + 1) (by omega)
    omega
theorem km_by : ∀ k, k < 31 → (km k = 8 ↔ k = 11) := by decide
theorem km_lt : ∀ k, k < 31 → km k < 32 := by decide
theorem idle_k {K V : Nat → Int32} {t k : Nat} (ht : t < 2000) (hK : K t = nI k) (hk : k < 31) : s_Tok_isIdle K V (nI t) = if k = 11 ∧ V (t + 1) = 1 then 1 else 0 := by
  unfold s_Tok_isIdle s_Tok_kindAt s_Tok_valueAt
  dsimp only
  rw [if_neg (nI_pos (by omega)), if_neg (geL (N := 2001) (b := 2001) rfl (by omega) (by decide)), nI_clamp (by omega), hK, nI_1, if_neg (nI_pos (by omega)), if_neg (geL (N := 2001) (b := 2001) rfl (by omega) (by decide)), nI_clamp (by omega)]
  by_cases c : k = 11
  · rw [if_pos (show nI k = 11 by rw [c]; rfl)]
    by_cases d : V (t + 1) = 1
    · rw [if_pos d, if_pos ⟨c, d⟩]
    · rw [if_neg d, if_neg (fun q => d q.2)]
  · rw [if_neg (neR (N := 11) (j := 11) rfl (by omega) (by decide) c), if_neg (fun q => c q.1)]
theorem idle_0 (K V : Nat → Int32) : s_Tok_isIdle K V (nI 0 - 1) = 0 := by
  unfold s_Tok_isIdle s_Tok_kindAt
  dsimp only
  rw [if_pos (show nI 0 - 1 < 0 by decide), if_neg (by decide)]
/-- a space, but not at the beginning -/
def sp (t : Nat) : List Nat := if t = 0 then [] else [32]
theorem one_step {f : Nat → Int32} {k v m t n q : Nat} {K V : Nat → Int32} (h : tokOK k v) (ht : t < n) (hn : n ≤ 2000) (hK : K t = nI k) (hV : V t = nI v) (hm : m + (sp t ++ tw k v).length ≤ 4000) (h1 : s_Tok_isIdle K V (nI t) = 0) (h2 : s_Tok_isIdle K V (nI t - 1) = 0) :
    lp_Tok_writeInto_2 K V (nI n) (q + 1) (nI t) (nI m) f = lp_Tok_writeInto_2 K V (nI n) q (nI (t + 1)) (nI (m + (sp t ++ tw k v).length)) (appL f m (sp t ++ tw k v)) ∧
    (oklp_Tok_writeInto_2 K V (nI n) q (nI (t + 1)) (nI (m + (sp t ++ tw k v).length)) (appL f m (sp t ++ tw k v)) → oklp_Tok_writeInto_2 K V (nI n) (q + 1) (nI t) (nI m) f) := by
  have e1 : s_Tok_kindAt K (nI t) = nI k := by
    unfold s_Tok_kindAt
    rw [if_neg (nI_pos (by omega)), if_neg (geL (N := 2001) (b := 2001) rfl (by omega) (by decide)), nI_clamp (by omega), hK]
  have e2 : s_Tok_valueAt V (nI t) = nI v := by
    unfold s_Tok_valueAt
    rw [if_neg (nI_pos (by omega)), if_neg (geL (N := 2001) (b := 2001) rfl (by omega) (by decide)), nI_clamp (by omega), hV]
  have hlt : ¬ nI n ≤ nI t := nI_ge ht (by omega)
  rw [lp_Tok_writeInto_2, oklp_Tok_writeInto_2]
  dsimp only
  rw [if_neg hlt, if_neg hlt, h1, if_pos rfl, if_pos rfl, h2, if_pos rfl, if_pos rfl, e1, e2, nI_1]
  by_cases c : t = 0
  · subst c
    have hm : m + (tw k v).length ≤ 4000 := hm
    obtain ⟨a1, a2⟩ := one_PQ (f := f) h hm
    rw [if_pos (by decide), if_pos (by decide), a1]
    exact ⟨rfl, fun z => ⟨a2, z⟩⟩
  · have es : sp t = [32] := if_neg c
    rw [es] at hm ⊢
    have hm : m + ((tw k v).length + 1) ≤ 4000 := hm
    have ho : s_Out_add f (nI m) 32 = (nI (m + 1), upd f m (nI 32)) := outAdd (c := 32) (by omega) (by decide)
    obtain ⟨a1, a2⟩ := one_PQ (m := m + 1) (f := upd f m (nI 32)) h (by omega)
    have hp : ¬ nI t ≤ 0 := nI_nle (by omega) (by omega)
    rw [if_neg hp, if_neg hp, ho]
    dsimp only
    rw [a1]
    rw [show m + 1 + (tw k v).length = m + ([32] ++ tw k v).length from by show m + 1 + (tw k v).length = m + ((tw k v).length + 1); omega]
    exact ⟨rfl, fun z => ⟨up_of (by omega) (by decide), a2, z⟩⟩
theorem mo_step {g : Nat → Int32} {k v m t n q : Nat} {SK SV : Nat → Int32} (h : tokOK k v) (ht : t < n) (hn : n ≤ 2000) (hK : SK t = nI (km k)) (hV : SV t = nI v) (hm : m + (sp t ++ tw k v).length ≤ 4000) (h1 : ¬ (k = 11 ∧ SV (t + 1) = 1)) (h2 : k = 11 → t + 1 < n) :
    lp_Mo_print_17 SK SV (nI n) (q + 1) (nI t) g (nI m) = lp_Mo_print_17 SK SV (nI n) q (nI (t + 1)) (appL g m (sp t ++ tw k v)) (nI (m + (sp t ++ tw k v).length)) ∧
    (oklp_Mo_print_17 SK SV (nI n) q (nI (t + 1)) (appL g m (sp t ++ tw k v)) (nI (m + (sp t ++ tw k v).length)) → oklp_Mo_print_17 SK SV (nI n) (q + 1) (nI t) g (nI m)) := by
  have hlt : ¬ nI n ≤ nI t := nI_ge ht (by omega)
  have hin : vp_in (nI t) 2000 := vp_in_nI (by omega) (by decide)
  have hk := km_lt k h.2.1
  rw [lp_Mo_print_17, oklp_Mo_print_17]
  dsimp only
  rw [if_neg hlt, if_neg hlt, nI_1, nI_clamp (by omega), nI_clamp (by omega), hK]
  have key : ∀ (X : Prop), (X → X) → ((if nI t ≤ 0 then lp_Mo_print_17 SK SV (nI n) q (nI (t + 1)) (s_Mo_writeToken SK SV g (nI m) (nI t)).2 (s_Mo_writeToken SK SV g (nI m) (nI t)).1
        else lp_Mo_print_17 SK SV (nI n) q (nI (t + 1)) (s_Mo_writeToken SK SV (upd g (nI m).toNatClampNeg 32) (nI m + 1) (nI t)).2 (s_Mo_writeToken SK SV (upd g (nI m).toNatClampNeg 32) (nI m + 1) (nI t)).1)
      = lp_Mo_print_17 SK SV (nI n) q (nI (t + 1)) (appL g m (sp t ++ tw k v)) (nI (m + (sp t ++ tw k v).length))) ∧
      (oklp_Mo_print_17 SK SV (nI n) q (nI (t + 1)) (appL g m (sp t ++ tw k v)) (nI (m + (sp t ++ tw k v).length)) →
        (if nI t ≤ 0 then (ok_Mo_writeToken SK SV g (nI m) (nI t)) ∧ (oklp_Mo_print_17 SK SV (nI n) q (nI (t + 1)) (s_Mo_writeToken SK SV g (nI m) (nI t)).2 (s_Mo_writeToken SK SV g (nI m) (nI t)).1)
        else (up (nI m) 4199) ∧ ((ok_Mo_writeToken SK SV (upd g (nI m).toNatClampNeg 32) (nI m + 1) (nI t)) ∧ (oklp_Mo_print_17 SK SV (nI n) q (nI (t + 1)) (s_Mo_writeToken SK SV (upd g (nI m).toNatClampNeg 32) (nI m + 1) (nI t)).2 (s_Mo_writeToken SK SV (upd g (nI m).toNatClampNeg 32) (nI m + 1) (nI t)).1)))) := by
    intro X _
    by_cases c : t = 0
    · subst c
      have hm : m + (tw k v).length ≤ 4000 := hm
      obtain ⟨a1, a2⟩ := one_Mo (g := g) h (t := 0) (by omega) hK hV (m := m) (by omega)
      rw [if_pos (by decide), if_pos (by decide), a1]
      exact ⟨rfl, fun z => ⟨a2, z⟩⟩
    · have es : sp t = [32] := if_neg c
      rw [es] at hm ⊢
      have hm : m + ((tw k v).length + 1) ≤ 4000 := hm
      obtain ⟨a1, a2⟩ := one_Mo (m := m + 1) (g := upd g m (nI 32)) h (t := t) (by omega) hK hV (by omega)
      have hp : ¬ nI t ≤ 0 := nI_nle (by omega) (by omega)
      rw [if_neg hp, if_neg hp, nI_1, nI_clamp (by omega)]
      have a1' : s_Mo_writeToken SK SV (upd g m 32) (nI (m + 1)) (nI t) = (nI (m + 1 + (tw k v).length), appL (upd g m (nI 32)) (m + 1) (tw k v)) := a1
      rw [a1']
      rw [show m + 1 + (tw k v).length = m + ([32] ++ tw k v).length from by show m + 1 + (tw k v).length = m + ((tw k v).length + 1); omega]
      exact ⟨rfl, fun z => ⟨up_of (by omega) (by decide), a2, z⟩⟩
  obtain ⟨k1, k2⟩ := key True id
  by_cases c : k = 11
  · have c1 : nI (km k) = 8 := by rw [c]; rfl
    have c2 : ¬ SV (t + 1) = 1 := fun q => h1 ⟨c, q⟩
    rw [if_pos c1, if_pos c1, if_neg c2, if_neg c2]
    refine ⟨k1, fun z => ⟨hin, ?_, k2 z⟩⟩
    exact vp_in_nI (by have := h2 c; omega) (by decide)
  · have c1 : ¬ nI (km k) = 8 := neR (N := 8) (j := 8) rfl (by omega) (by decide) (fun q => c ((km_by k h.2.1).mp q))
    rw [if_neg c1, if_neg c1]
    exact ⟨k1, fun z => ⟨hin, k2 z⟩⟩
theorem pr_lp {K V SK SV : Nat → Int32} {n : Nat} {pos : Nat → Nat} (h : TokR K V n SK SV pos) : ∀ (R r t m b c : Nat) (f g : Nat → Int32), r ≤ R → t + r = n → s_Tok_isIdle K V (nI t - 1) = 0 → m ≤ pos t + t → (∀ i, i < 1 * m → f i = g i) →
    ∃ (M : Nat) (F L : Nat → Int32), lp_Tok_writeInto_2 K V (nI n) (r + 1 + b) (nI t) (nI m) f = (nI M, F) ∧ lp_Mo_print_17 SK SV (nI n) (r + 1 + c) (nI t) g (nI m) = (nI M, nI M, L) ∧ M ≤ 4000 ∧ (∀ i, i < 1 * M → F i = L i) ∧ oklp_Tok_writeInto_2 K V (nI n) (r + 1 + b) (nI t) (nI m) f ∧ oklp_Mo_print_17 SK SV (nI n) (r + 1 + c) (nI t) g (nI m) := by
  obtain ⟨hn, hpos, hT⟩ := h
  intro R
  induction R with
  | zero =>
    intro r t m b c f g hr ht hi hm hs
    have hr : r = 0 := by omega
    subst hr
    have ht : t = n := by omega
    subst ht
    have hle : nI t ≤ nI t := nI_le (Nat.le_refl _) (by omega)
    refine ⟨m, f, g, ?_, ?_, by omega, hs, ?_, ?_⟩
    · rw [show 0 + 1 + b = b + 1 from by omega, lp_Tok_writeInto_2, if_pos hle]
    · rw [show 0 + 1 + c = c + 1 from by omega, lp_Mo_print_17, if_pos hle]
    · rw [show 0 + 1 + b = b + 1 from by omega, oklp_Tok_writeInto_2, if_pos hle]
      trivial
    · rw [show 0 + 1 + c = c + 1 from by omega, oklp_Mo_print_17, if_pos hle]
      trivial
  | succ R ih =>
    intro r t m b c f g hr ht hi hm hs
    by_cases hr0 : r = 0
    · exact ih r t m b c f g (by omega) ht hi hm hs
    · obtain ⟨r1, rfl⟩ : ∃ r1, r = r1 + 1 := ⟨r - 1, by omega⟩
      obtain ⟨k, v, ok, hK, hV, hSK, hSV, hp, h11⟩ := hT t (by omega)
      have hmono : ∀ u, u ≤ n → pos u ≤ pos n := fun u hu => TokR.mono (K := K) (V := V) (SK := SK) (SV := SV) ⟨hn, hpos, hT⟩ (n - u) u (by omega)
      have hid := idle_k (V := V) (t := t) (by omega) hK ok.2.1
      by_cases idle : k = 11 ∧ V (t + 1) = 1
      · have ht1 := h11 idle.1
        obtain ⟨k', v', ok', hK', hV', hSK', hSV', hp', h11'⟩ := hT (t + 1) ht1
        have hv1 : v' = 1 := by
          have := idle.2
          rw [hV'] at this
          exact (nI_eq (b := 1) (by have := ok'.2.2.1; omega) (by decide)).mp this
        have hk' : k' ≠ 11 := fun q => by
          have := ok'.2.2.2.2.2 (by omega)
          omega
        have hid' := idle_k (V := V) (t := t + 1) (by omega) hK' ok'.2.1
        rw [if_neg (fun q => hk' q.1)] at hid'
        rw [if_pos idle] at hid
        obtain ⟨r2, rfl⟩ : ∃ r2, r1 = r2 + 1 := ⟨r1 - 1, by omega⟩
        have e2 : nI (t + 2) - 1 = nI (t + 1) := nI_pred (t + 1)
        have e1 : nI (t + 1) - 1 = nI t := nI_pred t
        have ee9 : pos (t + 2) = pos (t + 1 + 1) := rfl
        obtain ⟨M, F, L, q1, q2, q3, q4, q5, q6⟩ := ih r2 (t + 2) m b (c + 1) f g (by omega) (by omega) (by rw [e2]; exact hid') (by omega) hs
        have hlt : ¬ nI n ≤ nI t := nI_ge (by omega) (by omega)
        have hlt1 : ¬ nI n ≤ nI (t + 1) := nI_ge (by omega) (by omega)
        have hsv : SV (t + 1) = 1 := by rw [hSV', hv1]; rfl
        have hsk : SK t = 8 := by rw [hSK, idle.1]; rfl
        refine ⟨M, F, L, ?_, ?_, q3, q4, ?_, ?_⟩
        · rw [show r2 + 1 + 1 + 1 + b = (r2 + 1 + b + 1) + 1 from by omega, lp_Tok_writeInto_2]
          dsimp only
          rw [if_neg hlt, hid, if_neg (by decide), nI_1, lp_Tok_writeInto_2]
          dsimp only
          rw [if_neg hlt1, hid', if_pos rfl, e1, hid, if_neg (by decide), nI_1]
          exact q1
        · rw [show r2 + 1 + 1 + 1 + c = (r2 + 1 + (c + 1)) + 1 from by omega, lp_Mo_print_17]
          dsimp only
          rw [if_neg hlt, nI_clamp (by omega), if_pos hsk, nI_1, nI_clamp (by omega), if_pos hsv, show nI t + 2 = nI (t + 2) from nI_add t 2]
          exact q2
        · rw [show r2 + 1 + 1 + 1 + b = (r2 + 1 + b + 1) + 1 from by omega, oklp_Tok_writeInto_2]
          dsimp only
          rw [if_neg hlt, hid, if_neg (by decide), nI_1, oklp_Tok_writeInto_2]
          dsimp only
          rw [if_neg hlt1, hid', if_pos rfl, e1, hid, if_neg (by decide), nI_1]
          exact q5
        · rw [show r2 + 1 + 1 + 1 + c = (r2 + 1 + (c + 1)) + 1 from by omega, oklp_Mo_print_17]
          dsimp only
          rw [if_neg hlt, nI_clamp (by omega), if_pos hsk, nI_1, nI_clamp (by omega), if_pos hsv, show nI t + 2 = nI (t + 2) from nI_add t 2]
          exact ⟨vp_in_nI (by omega) (by decide), vp_in_nI (by omega) (by decide), q6⟩
      · rw [if_neg idle] at hid
        have hsp : (sp t ++ tw k v).length ≤ 1 + (tw k v).length := by
          rw [List.length_append]
          unfold sp
          split
          · show 0 + (tw k v).length ≤ _
            omega
          · show 1 + (tw k v).length ≤ _
            omega
        have hp1 := hmono (t + 1) (by omega)
        have hm1 : m + (sp t ++ tw k v).length ≤ 4000 := by omega
        have hno : ¬ (k = 11 ∧ SV (t + 1) = 1) := fun q => by
          obtain ⟨k', v', ok', hK', hV', hSK', hSV', hp', h11'⟩ := hT (t + 1) (h11 q.1)
          exact idle ⟨q.1, by rw [hV', ← hSV']; exact q.2⟩
        have e1 : nI (t + 1) - 1 = nI t := nI_pred t
        obtain ⟨M, F, L, q1, q2, q3, q4, q5, q6⟩ := ih r1 (t + 1) (m + (sp t ++ tw k v).length) b c (appL f m (sp t ++ tw k v)) (appL g m (sp t ++ tw k v)) (by omega) (by omega) (by rw [e1]; exact hid) (by omega) (appL_eq _ _ _ _ hs)
        obtain ⟨s1, s2⟩ := one_step (q := r1 + 1 + b) (f := f) ok (by omega) hn hK hV hm1 hid hi
        obtain ⟨s3, s4⟩ := mo_step (q := r1 + 1 + c) (g := g) ok (by omega) hn hSK hSV hm1 hno h11
        refine ⟨M, F, L, ?_, ?_, q3, q4, ?_, ?_⟩
        · rw [show r1 + 1 + 1 + b = (r1 + 1 + b) + 1 from by omega, s1]
          exact q1
        · rw [show r1 + 1 + 1 + c = (r1 + 1 + c) + 1 from by omega, s3]
          exact q2
        · rw [show r1 + 1 + 1 + b = (r1 + 1 + b) + 1 from by omega]
          exact s2 q5
        · rw [show r1 + 1 + 1 + c = (r1 + 1 + c) + 1 from by omega]
          exact s4 q6
