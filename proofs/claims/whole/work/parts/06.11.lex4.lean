/-! the whole text -/
def TokAt (g K V P : Nat → Int32) (N : Nat) (e pos : Nat → Nat) (t : Nat) : Prop := ∃ k v : Nat, tokOK k v ∧ K t = nI k ∧ V t = nI v ∧ P t = nI (pos t) ∧ s_Mo_look g (nI N) (nI (e t)) = (nI (e (t + 1)), nI (pos t), nI (km k), nI v) ∧ e t ≤ pos t ∧ pos t + (tw k v).length ≤ e (t + 1) ∧ pos t + 1 ≤ e (t + 1) ∧ e (t + 1) ≤ N
def EndAt (g K V P : Nat → Int32) (N : Nat) (e : Nat → Nat) (n : Nat) : Prop := V n = 0 ∧ e n ≤ N ∧ ((K n = 0 ∧ P n = nI N ∧ s_Mo_look g (nI N) (nI (e n)) = (nI N, nI N, 30, 0)) ∨ (K n = 1 ∧ ∃ (p : Nat) (a v : Int32), p < N ∧ P n = nI p ∧ s_Mo_look g (nI N) (nI (e n)) = (a, nI p, 31, v)))
theorem cut_lp {f g : Nat → Int32} {N : Nat} (hN : N ≤ 2000) (hc : chF f) (hfg : ∀ j, j < N → f j = g j) : ∀ (R r s0 s w b : Nat) (K V P : Nat → Int32), r ≤ R → s + r = N → s0 ≤ s → w ≤ s0 → (∀ j, s0 ≤ j → j < s → g j = 32) →
    ∃ (n : Nat) (K' V' P' : Nat → Int32) (e pos : Nat → Nat), lp_Tok_cut_7 f (nI N) (r + 1 + b) (nI s) K V P (nI w) = (nI n, K', V', P') ∧ oklp_Tok_cut_7 f (nI N) (r + 1 + b) (nI s) K V P (nI w) ∧ w ≤ n ∧ n ≤ N ∧ (∀ t, t < w → K' t = K t ∧ V' t = V t ∧ P' t = P t) ∧ e w = s0 ∧ (∀ t, w ≤ t → t < n → TokAt g K' V' P' N e pos t) ∧ EndAt g K' V' P' N e n := by
  have hu : up (nI N) 2000 := up_of hN (by decide)
  intro R
  induction R with
  | zero =>
    intro r s0 s w b K V P hr hs h0 hw hsp
    have hr : r = 0 := by omega
    subst hr
    have hs : s = N := by omega
    subst hs
    have hle : nI s ≤ nI s := nI_le (Nat.le_refl _) (by omega)
    refine ⟨w, upd K w 0, upd V w 0, upd P w (nI s), fun _ => s0, fun _ => 0, ?_, ?_, Nat.le_refl _, by omega, fun t ht => ⟨pk_un (by omega), pk_un (by omega), pk_un (by omega)⟩, rfl, fun t h1 h2 => absurd h2 (by omega), pk_us, by omega, Or.inl ⟨pk_us, pk_us, look_end hN (by omega) hsp⟩⟩
    · rw [show 0 + 1 + b = b + 1 from by omega, lp_Tok_cut_7, if_pos hle, put_nI (by omega)]
    · rw [show 0 + 1 + b = b + 1 from by omega, oklp_Tok_cut_7, if_pos hle]
      exact ⟨up_of (by omega) (by decide), trivial⟩
  | succ R ih =>
    intro r s0 s w b K V P hr hs h0 hw hsp
    by_cases hr0 : r = 0
    · exact ih r s0 s w b K V P (by omega) hs h0 hw hsp
    · have hlt : ¬ nI N ≤ nI s := nI_ge (by omega) (by omega)
      have hat : s_Text_at f (nI N) (nI s) = f s := by rw [at_ch hN (by omega), chAt_in (by omega)]
      obtain ⟨r1, rfl⟩ : ∃ r1, r = r1 + 1 := ⟨r - 1, by omega⟩
      by_cases c : f s = 32
      · obtain ⟨n, K', V', P', e, pos, q1, q2, q3, q4, q5, q6, q7, q8⟩ := ih r1 s0 (s + 1) w b K V P (by omega) (by omega) (by omega) hw (fun j j1 j2 => by
          by_cases d : j = s
          · rw [d, ← hfg s (by omega)]
            exact c
          · exact hsp j j1 (by omega))
        refine ⟨n, K', V', P', e, pos, ?_, ?_, q3, q4, q5, q6, q7, q8⟩
        · rw [show r1 + 1 + 1 + b = (r1 + 1 + b) + 1 from by omega, lp_Tok_cut_7, if_neg hlt, hat]
          dsimp only
          rw [if_pos c, nI_1]
          exact q1
        · rw [show r1 + 1 + 1 + b = (r1 + 1 + b) + 1 from by omega, oklp_Tok_cut_7, if_neg hlt, hat]
          dsimp only
          rw [if_pos c, nI_1]
          exact ⟨hu, hc, q2⟩
      · obtain ⟨o1, o2⟩ := lex_one (f := f) (g := g) (K := K) (V := V) (P := P) (N := N) (i := s) (w := w) hN (by omega) (by omega) hc hfg c
        rcases o2 with ⟨k, v, len, a1, a2, a3, a4, a5, a6⟩ | ⟨a1, a, v, a2⟩
        · have hlen : (1 : Int32) ≤ nI len := leL (a := 1) rfl (by omega) (by omega)
          obtain ⟨n, K', V', P', e, pos, q1, q2, q3, q4, q5, q6, q7, q8⟩ := ih (r1 + 1 - len) (s + len) (s + len) (w + 1) (b + len - 1) (upd K w (nI k)) (upd V w (nI v)) (upd P w (nI s)) (by omega) (by omega) (Nat.le_refl _) (by omega) (fun j j1 j2 => absurd j2 (by omega))
          rw [show r1 + 1 - len + 1 + (b + len - 1) = r1 + 1 + b from by omega] at q1 q2
          obtain ⟨k1, k2, k3⟩ := q5 w (by omega)
          rw [pk_us] at k1 k2 k3
          have lk := a6 s0 h0 hsp
          refine ⟨n, K', V', P', fun t => if t ≤ w then s0 else e t, fun t => if t = w then s else pos t, ?_, ?_, by omega, q4, fun t ht => ?_, if_pos (Nat.le_refl _), fun t t1 t2 => ?_, ?_⟩
          · rw [show r1 + 1 + 1 + b = (r1 + 1 + b) + 1 from by omega, lp_Tok_cut_7, if_neg hlt, hat]
            dsimp only
            rw [if_neg c, a5]
            dsimp only
            rw [if_pos hlen, nI_add, nI_1]
            exact q1
          · rw [show r1 + 1 + 1 + b = (r1 + 1 + b) + 1 from by omega, oklp_Tok_cut_7, if_neg hlt, hat]
            dsimp only
            rw [if_neg c, a5]
            dsimp only
            rw [if_pos hlen, nI_add, nI_1]
            exact ⟨hu, hc, o1, q2⟩
          · obtain ⟨z1, z2, z3⟩ := q5 t (by omega)
            rw [pk_un (by omega)] at z1 z2 z3
            exact ⟨z1, z2, z3⟩
          · by_cases d : t = w
            · subst d
              refine ⟨k, v, a1, k1, k2, ?_, ?_, ?_, ?_, ?_, ?_⟩
              · show P' t = nI (if t = t then s else pos t)
                rw [if_pos rfl]
                exact k3
              · show s_Mo_look g (nI N) (nI (if t ≤ t then s0 else e t)) = (nI (if t + 1 ≤ t then s0 else e (t + 1)), nI (if t = t then s else pos t), nI (km k), nI v)
                rw [if_pos (Nat.le_refl _), if_neg (by omega), if_pos rfl, q6]
                exact lk
              · show (if t ≤ t then s0 else e t) ≤ (if t = t then s else pos t)
                rw [if_pos (Nat.le_refl _), if_pos rfl]
                exact h0
              · show (if t = t then s else pos t) + _ ≤ (if t + 1 ≤ t then s0 else e (t + 1))
                rw [if_pos rfl, if_neg (by omega), q6]
                omega
              · show (if t = t then s else pos t) + _ ≤ (if t + 1 ≤ t then s0 else e (t + 1))
                rw [if_pos rfl, if_neg (by omega), q6]
                omega
              · show (if t + 1 ≤ t then s0 else e (t + 1)) ≤ N
                rw [if_neg (by omega), q6]
                exact a3
            · obtain ⟨kk, vv, z1, z2, z3, z4, z5, z6, z7, z8, z9⟩ := q7 t (by omega) t2
              refine ⟨kk, vv, z1, z2, z3, ?_, ?_, ?_, ?_, ?_, ?_⟩
              · show P' t = nI (if t = w then s else pos t)
                rw [if_neg d]
                exact z4
              · show s_Mo_look g (nI N) (nI (if t ≤ w then s0 else e t)) = (nI (if t + 1 ≤ w then s0 else e (t + 1)), nI (if t = w then s else pos t), nI (km kk), nI vv)
                rw [if_neg (by omega), if_neg (by omega), if_neg d]
                exact z5
              · show (if t ≤ w then s0 else e t) ≤ (if t = w then s else pos t)
                rw [if_neg (by omega), if_neg d]
                exact z6
              · show (if t = w then s else pos t) + _ ≤ (if t + 1 ≤ w then s0 else e (t + 1))
                rw [if_neg d, if_neg (by omega)]
                exact z7
              · show (if t = w then s else pos t) + _ ≤ (if t + 1 ≤ w then s0 else e (t + 1))
                rw [if_neg d, if_neg (by omega)]
                exact z8
              · show (if t + 1 ≤ w then s0 else e (t + 1)) ≤ N
                rw [if_neg (by omega)]
                exact z9
          · obtain ⟨z1, z2, z3⟩ := q8
            refine ⟨z1, ?_, ?_⟩
            · show (if n ≤ w then s0 else e n) ≤ N
              rw [if_neg (by omega)]
              exact z2
            · show (K' n = 0 ∧ P' n = nI N ∧ s_Mo_look g (nI N) (nI (if n ≤ w then s0 else e n)) = _) ∨ (K' n = 1 ∧ ∃ (p : Nat) (a v : Int32), p < N ∧ P' n = nI p ∧ s_Mo_look g (nI N) (nI (if n ≤ w then s0 else e n)) = (a, nI p, 31, v))
              rw [if_neg (by omega)]
              exact z3
        · refine ⟨w, upd K w 1, upd V w 0, upd P w (nI s), fun _ => s0, fun _ => 0, ?_, ?_, Nat.le_refl _, by omega, fun t ht => ⟨pk_un (by omega), pk_un (by omega), pk_un (by omega)⟩, rfl, fun t h1 h2 => absurd h2 (by omega), pk_us, (show s0 ≤ N by omega), Or.inr ⟨pk_us, s, a, v, by omega, pk_us, a2 s0 h0 hsp⟩⟩
          · rw [show r1 + 1 + 1 + b = (r1 + 1 + b) + 1 from by omega, lp_Tok_cut_7, if_neg hlt, hat]
            dsimp only
            rw [if_neg c, a1]
            dsimp only
            rw [if_neg (show ¬ (1 : Int32) ≤ 0 by decide), put_nI (by omega)]
          · rw [show r1 + 1 + 1 + b = (r1 + 1 + b) + 1 from by omega, oklp_Tok_cut_7, if_neg hlt, hat]
            dsimp only
            rw [if_neg c, a1]
            dsimp only
            rw [if_neg (show ¬ (1 : Int32) ≤ 0 by decide)]
            exact ⟨hu, hc, o1, up_of (by omega) (by decide), trivial⟩
/-- the tokens of a text -/
def LexR (g K V P : Nat → Int32) (N n : Nat) (e pos : Nat → Nat) : Prop := N ≤ 2000 ∧ n ≤ N ∧ e 0 = 0 ∧ (∀ t, t < n → TokAt g K V P N e pos t) ∧ EndAt g K V P N e n
theorem LexR.hN {g K V P : Nat → Int32} {N n : Nat} {e pos : Nat → Nat} (h : LexR g K V P N n e pos) : N ≤ 2000 := h.1
theorem LexR.le {g K V P : Nat → Int32} {N n : Nat} {e pos : Nat → Nat} (h : LexR g K V P N n e pos) : n ≤ N := h.2.1
theorem LexR.e0 {g K V P : Nat → Int32} {N n : Nat} {e pos : Nat → Nat} (h : LexR g K V P N n e pos) : e 0 = 0 := h.2.2.1
theorem LexR.tok {g K V P : Nat → Int32} {N n : Nat} {e pos : Nat → Nat} (h : LexR g K V P N n e pos) : ∀ t, t < n → TokAt g K V P N e pos t := h.2.2.2.1
theorem LexR.fin {g K V P : Nat → Int32} {N n : Nat} {e pos : Nat → Nat} (h : LexR g K V P N n e pos) : EndAt g K V P N e n := h.2.2.2.2
theorem lex_all {f g K V P : Nat → Int32} {N : Nat} (hN : N ≤ 2000) (hc : chF f) (hfg : ∀ j, j < N → f j = g j) : ∃ (n : Nat) (K' V' P' : Nat → Int32) (e pos : Nat → Nat), lp_Tok_cut_7 f (nI N) 2001 (0 : Int32) K V P (0 : Int32) = (nI n, K', V', P') ∧ ok_Tok_cut K V P f (nI N) ∧ LexR g K' V' P' N n e pos := by
  obtain ⟨n, K', V', P', e, pos, q1, q2, q3, q4, q5, q6, q7, q8⟩ := cut_lp hN hc hfg N N 0 0 0 (2000 - N) K V P (Nat.le_refl _) (by omega) (Nat.le_refl _) (Nat.le_refl _) (fun j j1 j2 => absurd j2 (by omega))
  rw [show N + 1 + (2000 - N) = 2001 from by omega] at q1 q2
  exact ⟨n, K', V', P', e, pos, q1, q2, ⟨hN, q4, q6, fun t ht => q7 t (Nat.zero_le _) ht, q8⟩⟩
