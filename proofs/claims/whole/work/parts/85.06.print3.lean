/-! print -/
theorem r_print {K V SK SV f g : Nat → Int32} {n : Nat} {pos : Nat → Nat} {v w b : Int32} (h : ¬ b = 0 → TokR K V n SK SV pos) (hs : SeqR 4000 1 f v g w) :
    ok_PQ_print f K V (nI n) b ∧ ok_Mo_print SK SV (nI n) b g ∧ (s_PQ_print f v K V (nI n) b).1 = (s_Mo_print SK SV (nI n) b g w).1 ∧
    SeqR 4000 1 (s_PQ_print f v K V (nI n) b).2.2 (s_PQ_print f v K V (nI n) b).2.1 (s_Mo_print SK SV (nI n) b g w).2.2 (s_Mo_print SK SV (nI n) b g w).2.1 := by
  unfold ok_PQ_print ok_Mo_print s_PQ_print s_Mo_print s_Scr_writeInto ok_Scr_writeInto ok_Tok_writeInto
  by_cases c : b = 0
  · rw [if_pos c, if_pos c, if_pos c, if_pos c]
    exact ⟨trivial, trivial, rfl, hs⟩
  · rw [if_neg c, if_neg c, if_neg c, if_neg c]
    have hT := h c
    have hn := hT.1
    obtain ⟨M, F, L, q1, q2, q3, q4, q5, q6⟩ := pr_lp hT n n 0 0 (2001 - n) (2000 - n) f g (Nat.le_refl _) (by omega) (idle_0 K V) (Nat.zero_le _) (fun i hi => absurd hi (by omega))
    rw [show n + 1 + (2001 - n) = 2002 from by omega] at q1 q5
    rw [show n + 1 + (2000 - n) = 2001 from by omega] at q2 q6
    have q1' : lp_Tok_writeInto_2 K V (nI n) 2002 (0 : Int32) 0 f = (nI M, F) := q1
    have q2' : lp_Mo_print_17 SK SV (nI n) 2001 (0 : Int32) g (0 : Int32) = (nI M, nI M, L) := q2
    dsimp only
    rw [q1', q2']
    exact ⟨⟨⟨q5, trivial⟩, trivial⟩, q6, rfl, M, q3, rfl, rfl, q4⟩
