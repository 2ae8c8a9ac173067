/-! sum -/
section TOP4
variable {g K V P : Nat → Int32} {N n : Nat} {e pos : Nat → Nat} {LO told lo : Nat → Int32} {Lc : Nat}
abbrev ST : Type := Int32 × Int32 × Int32 × Int32 × Int32 × Int32 × Int32 × Int32 × Int32 × Int32 × (Nat → Int32) × (Nat → Int32) × (Nat → Int32) × (Nat → Int32) × (Nat → Int32) × (Nat → Int32) × (Nat → Int32) × (Nat → Int32) × (Nat → Int32) × (Nat → Int32) × (Nat → Int32)
/-- three arrays more than where's -/
def suT (w : WT) (a b c : Nat → Int32) : ST := (w.1, w.2.1, w.2.2.1, w.2.2.2.1, w.2.2.2.2.1, w.2.2.2.2.2.1, w.2.2.2.2.2.2.1, w.2.2.2.2.2.2.2.1, w.2.2.2.2.2.2.2.2.1, w.2.2.2.2.2.2.2.2.2.1, w.2.2.2.2.2.2.2.2.2.2.1, w.2.2.2.2.2.2.2.2.2.2.2.1, w.2.2.2.2.2.2.2.2.2.2.2.2.1, a, b, c, w.2.2.2.2.2.2.2.2.2.2.2.2.2.1, w.2.2.2.2.2.2.2.2.2.2.2.2.2.2.1, w.2.2.2.2.2.2.2.2.2.2.2.2.2.2.2.1, w.2.2.2.2.2.2.2.2.2.2.2.2.2.2.2.2.1, w.2.2.2.2.2.2.2.2.2.2.2.2.2.2.2.2.2)
theorem asks_hfail {S W : Nat → Int32} {Q : Nat → Nat → Int32} {nq t0 t' j cs : Nat} (hq : nq < 12) (ht0 : t0 ≤ 2000) (h1 : (s_Par_head K V (nI t0) (Q nq 0) (Q nq 1) (Q nq 2) (Q nq 3) (Q nq 4) (Q nq 5) (Q nq 6) (Q nq 7)).1 = 0) (h2 : (s_Par_head K V (nI t0) (Q nq 0) (Q nq 1) (Q nq 2) (Q nq 3) (Q nq 4) (Q nq 5) (Q nq 6) (Q nq 7)).2.1 = nI t') : ok_Par_asks K V S W (nI cs) Q (nI nq) LO (nI t0) (nI j) ∧ (s_Par_asks K V S W (nI cs) Q (nI nq) LO (nI t0) (nI j)).1 = 0 ∧ (s_Par_asks K V S W (nI cs) Q (nI nq) LO (nI t0) (nI j)).2.1 = nI t' := by
  have hlt : nI nq < 12 := ltR (N := 12) (b := 12) rfl hq (by decide)
  unfold ok_Par_asks s_Par_asks
  rw [if_pos hlt, if_pos hlt, sqj_nI hq]
  dsimp only
  rw [if_pos h1, if_pos h1]
  exact ⟨⟨up_of (by omega) (by decide), trivial⟩, rfl, h2⟩
theorem col_eq {t : Nat} (ht : t ≤ 2000) : s_Par_column K V (nI t) = ((s_Par_take K (nI t) 3).1, (s_Par_take K (nI t) 3).2, V t) := by
  unfold s_Par_column
  rw [par_value ht]
theorem in_1k {v : Nat} (hv : v < 2 ^ 31) (h : ¬ s_Mo_in (nI v) 1 1000 = 0) : 1 ≤ v ∧ v ≤ 1000 := by
  unfold s_Mo_in at h
  by_cases c : nI v < (1 : Int32)
  · rw [if_pos c] at h
    exact absurd rfl h
  · rw [if_neg c] at h
    by_cases d : (1000 : Int32) < nI v
    · rw [if_pos d] at h
      exact absurd rfl h
    · have h1 : ¬ v < 1 := fun q => c (ltR (N := 1) (b := 1) rfl q (by decide))
      have h2 : ¬ 1000 < v := fun q => d (ltL (N := 1000) (a := 1000) rfl q hv)
      omega
/-- both have read a question, or both are at the same token -/
def QsR (g K V P : Nat → Int32) (N n : Nat) (e : Nat → Nat) (Lc : Nat) (m : MS) (t cs nq : Nat) (S W : Nat → Int32) (Q : Nat → Nat → Int32) (F : Int32 → Int32 → Int32 → Nat → Int32) (tp bg en : Nat → Int32) (r : AT) (w : WT) : Prop := WhOK g K V P N n e Lc m t cs nq S W Q F tp bg en r w ∨ WhNo P n r w
set_option maxHeartbeats 20000000 in
set_option maxRecDepth 100000 in
theorem sum_top (L : LexR g K V P N n e pos) (R : LetR LO told lo Lc) {m : MS} {t0 j cs nq : Nat} {S W co hi byA tp bg en : Nat → Int32} {Q : Nat → Nat → Int32} (hq : nq < 12) (hK : K t0 = nI 7) (hat : At g K V N n e m (t0 + 1)) (hj : m.js = nI j) (hj2 : j ≤ 150) (hs : m.sz = nI (2 * cs)) (hc : cs ≤ t0) :
    ok_Par_asks K V S W (nI cs) Q (nI nq) LO (nI t0) (nI j) ∧ ok_Mo_readSum g (nI N) m.ks m.vs m.tk m.at_ m.pl m.kd m.vl m.dp m.js told lo m.co m.sz co tp bg en m.go m.wi m.gc (nI nq) ∧
    ((∃ (c h b t : Nat) (byA' : Nat → Int32) (m' : MS) (w : WT), c < 6 ∧ 1 ≤ h ∧ h ≤ 1000 ∧ 1 ≤ b ∧ b ≤ 1000 ∧ t0 + 1 ≤ t ∧ m'.co = m.co ∧ ((b = 1 ∧ byA' = byA) ∨ byA' = upd byA nq (nI b)) ∧ s_Mo_readSum g (nI N) m.ks m.vs m.tk m.at_ m.pl m.kd m.vl m.dp m.js told lo m.co m.sz co hi byA tp bg en m.go m.wi m.gc (nI nq) = suT w (upd co nq (nI c)) (upd hi nq (nI h)) byA' ∧ QsR g K V P N n e Lc m' t cs nq S W Q (fun x y z => qF 1 (nI c) 0 (nI h) (nI b) x y z) tp bg en (s_Par_asks K V S W (nI cs) Q (nI nq) LO (nI t0) (nI j)) w) ∨
     (∃ t' : Nat, (s_Par_asks K V S W (nI cs) Q (nI nq) LO (nI t0) (nI j)).1 = 0 ∧ (s_Par_asks K V S W (nI cs) Q (nI nq) LO (nI t0) (nI j)).2.1 = nI t' ∧ t' ≤ n ∧ (s_Mo_readSum g (nI N) m.ks m.vs m.tk m.at_ m.pl m.kd m.vl m.dp m.js told lo m.co m.sz co hi byA tp bg en m.go m.wi m.gc (nI nq)).1 = 0 ∧ (s_Mo_readSum g (nI N) m.ks m.vs m.tk m.at_ m.pl m.kd m.vl m.dp m.js told lo m.co m.sz co hi byA tp bg en m.go m.wi m.gc (nI nq)).2.2.2.1 = P t')) := by
  have hn := L.le
  have hN := L.hN
  have ht := hat.1
  have hin : vp_in (nI nq) 12 := vp_in_nI hq (by decide)
  have hpi := hat.pi L
  have e6 : s_Par_take K (nI t0) 6 = (0, nI t0) := (par_take (show t0 ≤ 2000 by omega) hK (by decide) (show 6 < 31 by decide)).trans (if_neg (by decide))
  have e7 : s_Par_take K (nI t0) 7 = (1, nI (t0 + 1)) := (par_take (show t0 ≤ 2000 by omega) hK (by decide) (show 7 < 31 by decide)).trans (if_pos rfl)
  -- what the head comes to
  have hhead : ∀ q0 q1 q2 q3 q4 q5 q6 q7 : Int32, s_Par_head K V (nI t0) q0 q1 q2 q3 q4 q5 q6 q7 = (if (s_Par_take K (nI (t0 + 1)) 3).1 = 0 then (0, (s_Par_take K (nI (t0 + 1)) 3).2, 1, V (t0 + 1), 0, 0, 1, 0, 0, 0) else if (s_Par_bounds K V (s_Par_take K (nI (t0 + 1)) 3).2 0 1).1 = 0 then (0, (s_Par_bounds K V (s_Par_take K (nI (t0 + 1)) 3).2 0 1).2.1, 1, V (t0 + 1), 0, (s_Par_bounds K V (s_Par_take K (nI (t0 + 1)) 3).2 0 1).2.2.1, (s_Par_bounds K V (s_Par_take K (nI (t0 + 1)) 3).2 0 1).2.2.2, 0, 0, 0) else (1, (s_Par_bounds K V (s_Par_take K (nI (t0 + 1)) 3).2 0 1).2.1, 1, V (t0 + 1), 0, (s_Par_bounds K V (s_Par_take K (nI (t0 + 1)) 3).2 0 1).2.2.1, (s_Par_bounds K V (s_Par_take K (nI (t0 + 1)) 3).2 0 1).2.2.2, 0, 0, 0)) := fun q0 q1 q2 q3 q4 q5 q6 q7 => by
    unfold s_Par_head
    rw [e6]
    dsimp only
    rw [if_pos rfl, e7]
    dsimp only
    rw [if10, col_eq (by omega)]
  have hfail : ∀ t' : Nat, (∀ q0 q1 q2 q3 q4 q5 q6 q7 : Int32, (s_Par_head K V (nI t0) q0 q1 q2 q3 q4 q5 q6 q7).1 = 0 ∧ (s_Par_head K V (nI t0) q0 q1 q2 q3 q4 q5 q6 q7).2.1 = nI t') → ok_Par_asks K V S W (nI cs) Q (nI nq) LO (nI t0) (nI j) ∧ (s_Par_asks K V S W (nI cs) Q (nI nq) LO (nI t0) (nI j)).1 = 0 ∧ (s_Par_asks K V S W (nI cs) Q (nI nq) LO (nI t0) (nI j)).2.1 = nI t' := fun t' h => asks_hfail hq (by omega) (h _ _ _ _ _ _ _ _).1 (h _ _ _ _ _ _ _ _).2
  rcases take_sim L hat 3 3 13 (by decide) (by decide) rfl rfl with ⟨a1, a2, a3, a4, a5, ⟨c, a6, a8⟩, m1, n1, a7⟩ | ⟨a1, a2, a3⟩
  case inr =>
    obtain ⟨f1, f2, f3⟩ := hfail (t0 + 1) (fun q0 q1 q2 q3 q4 q5 q6 q7 => by
      rw [hhead, a1]
      exact ⟨rfl, rfl⟩)
    obtain ⟨k, -, -, -, z4, -, -⟩ := hat.view L
    refine ⟨f1, ?_, Or.inr ⟨t0 + 1, f2, f3, ht, ?_⟩⟩
    · unfold ok_Mo_readSum ok_Mo_readColumn s_Mo_readColumn
      rw [one_n a2]
      dsimp only
      rw [if_pos rfl]
      exact ⟨⟨hin, hpi, trivial⟩, trivial⟩
    · unfold s_Mo_readSum s_Mo_readColumn
      rw [one_n a2]
      dsimp only
      rw [if_pos rfl]
      exact ⟨rfl, z4⟩
  have hc6 : c < 6 := a6.2.2.2.1 rfl
  have hpi1 := a7.pi L
  have ecol : s_Mo_readColumn g (nI N) m.ks m.vs m.tk m.at_ m.pl m.kd m.vl co (nI nq) = (1, m1.tk, m1.at_, m1.pl, m1.kd, m1.vl, m1.ks, m1.vs, upd co nq (nI c)) := by
    unfold s_Mo_readColumn
    rw [n1.one a2, nI_clamp (by omega), a5, a8]
  have ocol : ok_Mo_readColumn g (nI N) m.ks m.vs m.tk m.at_ m.pl m.kd m.vl (nI nq) := ⟨hin, hpi, trivial⟩
  unfold ok_Mo_readSum s_Mo_readSum
  rw [ecol]
  dsimp only
  rw [if10, if10, nI_clamp (show nq < 2 ^ 31 by omega)]
  rcases take_sim L a7 10 10 7 (by decide) (by decide) rfl rfl with ⟨b1, b2, b3, b4, b5, -, m2, n2, b7⟩ | ⟨b1, b2, b3⟩
  case inr =>
    obtain ⟨f1, f2, f3⟩ := hfail (t0 + 1 + 1) (fun q0 q1 q2 q3 q4 q5 q6 q7 => by
      rw [hhead, a1]
      unfold s_Par_bounds
      dsimp only
      rw [b1]
      exact ⟨rfl, rfl⟩)
    obtain ⟨k, -, -, -, z4, -, -⟩ := a7.view L
    rw [one_n b2]
    dsimp only
    rw [if_pos rfl, if_pos rfl]
    exact ⟨f1, ⟨ocol, hpi1, trivial⟩, Or.inr ⟨t0 + 1 + 1, f2, f3, a7.1, rfl, z4⟩⟩
  rw [n2.one b2]
  dsimp only
  rw [if10, if10]
  rcases num_sim L b7 1 1000 with ⟨h, y1, y2, y3, y4, y5, y6, y7, m3, n3, y8, y9⟩ | ⟨y1, y2⟩
  case inr =>
    have hbd : s_Par_bounds K V (nI (t0 + 1 + 1)) 0 1 = (0, nI (t0 + 1 + 1 + 1), 0, 1) := by
      unfold s_Par_bounds
      simp only [b1, y1, if10, if_true]
    obtain ⟨f1, f2, f3⟩ := hfail (t0 + 1 + 1 + 1) (fun q0 q1 q2 q3 q4 q5 q6 q7 => by
      refine ⟨?_, ?_⟩ <;> simp only [hhead, a1, if10, hbd, if_true])
    obtain ⟨k, -, -, -, z4, -, -⟩ := b7.view L
    rw [y2]
    dsimp only
    rw [if_pos rfl, if_pos rfl]
    exact ⟨f1, ⟨ocol, hpi1, hin, trivial⟩, Or.inr ⟨t0 + 1 + 1 + 1, f2, f3, b7.1, rfl, z4⟩⟩
  obtain ⟨h1, h2⟩ := in_1k y1 y6
  rw [y8, y7]
  dsimp only
  rw [if10, if10]
  rcases take_sim L y9 11 11 8 (by decide) (by decide) rfl rfl with ⟨d1, d2, d3, d4, d5, -, m4, n4, d7⟩ | ⟨d1, d2, d3⟩
  · rw [if_pos d2, if_pos d2, n4.pass]
    dsimp only
    have hk30 : ¬ m3.kd = 30 := by rw [d2]; decide
    rcases num_sim L d7 1 1000 with ⟨b, x1, x2, x3, x4, x5, x6, x7, m5, n5, x8, x9⟩ | ⟨x1, x2⟩
    case inr =>
      have hbd : s_Par_bounds K V (nI (t0 + 1 + 1)) 0 1 = (0, nI (t0 + 1 + 1 + 1 + 1 + 1), nI h, 1) := by
        unfold s_Par_bounds
        simp only [b1, if_neg y2, nI_1, d1, if10, x1, y3, if_true]
      obtain ⟨f1, f2, f3⟩ := hfail (t0 + 1 + 1 + 1 + 1 + 1) (fun q0 q1 q2 q3 q4 q5 q6 q7 => by
        refine ⟨?_, ?_⟩ <;> simp only [hhead, a1, if10, hbd, if_true])
      obtain ⟨k, -, -, -, z4, -, -⟩ := d7.view L
      rw [x2]
      dsimp only
      rw [if_pos rfl, if_pos rfl]
      exact ⟨f1, ⟨ocol, hpi1, hin, hk30, hin, trivial⟩, Or.inr ⟨t0 + 1 + 1 + 1 + 1 + 1, f2, f3, d7.1, rfl, z4⟩⟩
    obtain ⟨g1, g2⟩ := in_1k x1 x6
    have hh : ∀ q0 q1 q2 q3 q4 q5 q6 q7 : Int32, s_Par_head K V (nI t0) q0 q1 q2 q3 q4 q5 q6 q7 = (1, nI (t0 + 1 + 1 + 1 + 1 + 1 + 1), 1, nI c, 0, nI h, nI b, 0, 0, 0) := fun q0 q1 q2 q3 q4 q5 q6 q7 => by
      have hbd : s_Par_bounds K V (nI (t0 + 1 + 1)) 0 1 = (1, nI (t0 + 1 + 1 + 1 + 1 + 1 + 1), nI h, nI b) := by
        unfold s_Par_bounds
        simp only [b1, if_neg y2, nI_1, d1, if10, if_neg x2, y3, x3]
      simp only [hhead, a1, if10, hbd, a8]
    obtain ⟨w1, w2, w3⟩ := where_sim (S := S) (W := W) (tp := tp) (bg := bg) (en := en) (Q := Q) (j := j) (cs := cs) (m := m5) L R hq (by omega) (hh _ _ _ _ _ _ _ _) x9 (n5.js.trans (n4.js.trans (n3.js.trans (n2.js.trans (n1.js.trans hj))))) hj2 (n5.sz.trans (n4.sz.trans (n3.sz.trans (n2.sz.trans (n1.sz.trans hs))))) (by omega)
    simp only [n1.js, n1.sz, n1.co, n1.dp, n1.gc, n1.go, n1.wi, n2.js, n2.sz, n2.co, n2.dp, n2.gc, n2.go, n2.wi, n3.js, n3.sz, n3.co, n3.dp, n3.gc, n3.go, n3.wi, n4.js, n4.sz, n4.co, n4.dp, n4.gc, n4.go, n4.wi, n5.js, n5.sz, n5.co, n5.dp, n5.gc, n5.go, n5.wi] at w2 w3
    rw [x8, x7]
    dsimp only
    rw [if10, if10]
    exact ⟨w1, ⟨ocol, hpi1, hin, hk30, hin, w2, trivial⟩, Or.inl ⟨c, h, b, t0 + 1 + 1 + 1 + 1 + 1 + 1, upd byA nq (nI b), m5, s_Mo_readWhere g (nI N) m5.ks m5.vs m5.tk m5.at_ m5.pl m5.kd m5.vl m.dp m.js told lo m.co m.sz tp bg en m.go m.wi m.gc (nI nq), hc6, h1, h2, g1, g2, by omega, by rw [n5.co, n4.co, n3.co, n2.co, n1.co], Or.inr rfl, rfl, w3⟩⟩
  · rw [if_neg d2, if_neg d2]
    have hh : ∀ q0 q1 q2 q3 q4 q5 q6 q7 : Int32, s_Par_head K V (nI t0) q0 q1 q2 q3 q4 q5 q6 q7 = (1, nI (t0 + 1 + 1 + 1 + 1), 1, nI c, 0, nI h, nI 1, 0, 0, 0) := fun q0 q1 q2 q3 q4 q5 q6 q7 => by
      have hbd : s_Par_bounds K V (nI (t0 + 1 + 1)) 0 1 = (1, nI (t0 + 1 + 1 + 1 + 1), nI h, nI 1) := by
        unfold s_Par_bounds
        simp only [b1, if_neg y2, nI_1, d1, if10, y3, if_true]
        rfl
      simp only [hhead, a1, if10, hbd, a8]
    obtain ⟨w1, w2, w3⟩ := where_sim (S := S) (W := W) (tp := tp) (bg := bg) (en := en) (Q := Q) (j := j) (cs := cs) (m := m3) L R hq (by omega) (hh _ _ _ _ _ _ _ _) y9 (n3.js.trans (n2.js.trans (n1.js.trans hj))) hj2 (n3.sz.trans (n2.sz.trans (n1.sz.trans hs))) (by omega)
    simp only [n1.js, n1.sz, n1.co, n1.dp, n1.gc, n1.go, n1.wi, n2.js, n2.sz, n2.co, n2.dp, n2.gc, n2.go, n2.wi, n3.js, n3.sz, n3.co, n3.dp, n3.gc, n3.go, n3.wi] at w2 w3
    exact ⟨w1, ⟨ocol, hpi1, hin, w2, trivial⟩, Or.inl ⟨c, h, 1, t0 + 1 + 1 + 1 + 1, byA, m3, s_Mo_readWhere g (nI N) m3.ks m3.vs m3.tk m3.at_ m3.pl m3.kd m3.vl m.dp m.js told lo m.co m.sz tp bg en m.go m.wi m.gc (nI nq), hc6, h1, h2, Nat.le_refl _, by omega, by omega, by rw [n3.co, n2.co, n1.co], Or.inl ⟨rfl, rfl⟩, rfl, w3⟩⟩
end TOP4
