/-! a piece of code puts one value on top, on both sides the same -/
def EvC (S W ho tb T C lv : Nat → Int32) (e r a b k : Nat) (x : Int32) : Prop :=
  (∀ (m : Nat) (g : Nat → Int32), ∃ G : Nat → Int32, lp_Cond_hold S W ho tb (nI e) (nI r) (m + (b - a)) (nI a) g (nI k) = lp_Cond_hold S W ho tb (nI e) (nI r) m (nI b) G (nI (k + 1)) ∧ G k = x ∧ ∀ j, j < k → G j = g j) ∧
  (∀ (m : Nat) (p : Nat → Int32), ∃ P : Nat → Int32, lp_Mo_work_6 T C lv (nI (2 * e)) (nI r) (m + (b - a)) (nI k) (nI (2 * a)) p = lp_Mo_work_6 T C lv (nI (2 * e)) (nI r) m (nI (k + 1)) (nI (2 * b)) P ∧ P k = x ∧ (∀ j, j < k → P j = p j) ∧
    (oklp_Mo_work_6 T C lv (nI (2 * e)) (nI r) m (nI (k + 1)) (nI (2 * b)) P → oklp_Mo_work_6 T C lv (nI (2 * e)) (nI r) (m + (b - a)) (nI k) (nI (2 * a)) p))
section EV
variable {S W ho tb T C lv : Nat → Int32} {e r : Nat}
/-- one step that pushes -/
theorem ev_push {i k : Nat} {x : Int32} (hi : i < e) (he : e ≤ 2000) (h1 : ∀ g : Nat → Int32, s_Cond_take g (nI k) ho tb (S i) (W i) (nI r) = (nI (k + 1), upd g k x))
    (h2 : ∀ (m : Nat) (p : Nat → Int32), lp_Mo_work_6 T C lv (nI (2 * e)) (nI r) (m + 1) (nI k) (nI (2 * i)) p = lp_Mo_work_6 T C lv (nI (2 * e)) (nI r) m (nI (k + 1)) (nI (2 * (i + 1))) (upd p k x) ∧ (oklp_Mo_work_6 T C lv (nI (2 * e)) (nI r) m (nI (k + 1)) (nI (2 * (i + 1))) (upd p k x) → oklp_Mo_work_6 T C lv (nI (2 * e)) (nI r) (m + 1) (nI k) (nI (2 * i)) p)) : EvC S W ho tb T C lv e r i (i + 1) k x := by
  refine ⟨fun m g => ⟨upd g k x, ?_, pk_us, fun j hj => pk_un (by omega)⟩, fun m p => ⟨upd p k x, ?_, pk_us, fun j hj => pk_un (by omega), ?_⟩⟩
  · rw [show m + (i + 1 - i) = m + 1 from by omega]
    exact c_step hi he (h1 g)
  · rw [show m + (i + 1 - i) = m + 1 from by omega]
    exact (h2 m p).1
  · rw [show m + (i + 1 - i) = m + 1 from by omega]
    exact (h2 m p).2
/-- one step that changes the top -/
theorem ev_un {a b k : Nat} {x : Int32} {f : Int32 → Int32} (hab : a < b) (hb : b < e) (he : e ≤ 2000) (d : EvC S W ho tb T C lv e r a b k x) (h1 : ∀ g : Nat → Int32, s_Cond_take g (nI (k + 1)) ho tb (S b) (W b) (nI r) = (nI (k + 1), upd g k (f (g k))))
    (h2 : ∀ (m : Nat) (p : Nat → Int32), lp_Mo_work_6 T C lv (nI (2 * e)) (nI r) (m + 1) (nI (k + 1)) (nI (2 * b)) p = lp_Mo_work_6 T C lv (nI (2 * e)) (nI r) m (nI (k + 1)) (nI (2 * (b + 1))) (upd p k (f (p k))) ∧ (oklp_Mo_work_6 T C lv (nI (2 * e)) (nI r) m (nI (k + 1)) (nI (2 * (b + 1))) (upd p k (f (p k))) → oklp_Mo_work_6 T C lv (nI (2 * e)) (nI r) (m + 1) (nI (k + 1)) (nI (2 * b)) p)) : EvC S W ho tb T C lv e r a (b + 1) k (f x) := by
  refine ⟨fun m g => ?_, fun m p => ?_⟩
  · obtain ⟨G, e1, e2, e3⟩ := d.1 (m + 1) g
    refine ⟨upd G k (f x), ?_, pk_us, fun j hj => by rw [pk_un (by omega)]; exact e3 j hj⟩
    rw [show m + (b + 1 - a) = m + 1 + (b - a) from by omega, e1, c_step hb he (h1 G), e2]
  · obtain ⟨P, e1, e2, e3, e4⟩ := d.2 (m + 1) p
    refine ⟨upd P k (f x), ?_, pk_us, fun j hj => by rw [pk_un (by omega)]; exact e3 j hj, fun z => ?_⟩
    · rw [show m + (b + 1 - a) = m + 1 + (b - a) from by omega, e1, (h2 m P).1, e2]
    · rw [show m + (b + 1 - a) = m + 1 + (b - a) from by omega]
      exact e4 ((h2 m P).2 (by rw [e2]; exact z))
/-- one step that joins the two on top -/
theorem ev_bin {a b c k : Nat} {x y : Int32} {f : Int32 → Int32 → Int32} (hab : a < b) (hbc : b < c) (hc : c < e) (he : e ≤ 2000) (d1 : EvC S W ho tb T C lv e r a b k x) (d2 : EvC S W ho tb T C lv e r b c (k + 1) y) (h1 : ∀ g : Nat → Int32, s_Cond_take g (nI (k + 2)) ho tb (S c) (W c) (nI r) = (nI (k + 1), upd g k (f (g k) (g (k + 1)))))
    (h2 : ∀ (m : Nat) (p : Nat → Int32), lp_Mo_work_6 T C lv (nI (2 * e)) (nI r) (m + 1) (nI (k + 2)) (nI (2 * c)) p = lp_Mo_work_6 T C lv (nI (2 * e)) (nI r) m (nI (k + 1)) (nI (2 * (c + 1))) (upd p k (f (p k) (p (k + 1)))) ∧ (oklp_Mo_work_6 T C lv (nI (2 * e)) (nI r) m (nI (k + 1)) (nI (2 * (c + 1))) (upd p k (f (p k) (p (k + 1)))) → oklp_Mo_work_6 T C lv (nI (2 * e)) (nI r) (m + 1) (nI (k + 2)) (nI (2 * c)) p)) : EvC S W ho tb T C lv e r a (c + 1) k (f x y) := by
  refine ⟨fun m g => ?_, fun m p => ?_⟩
  · obtain ⟨G1, e1, e2, e3⟩ := d1.1 (m + 1 + (c - b)) g
    obtain ⟨G2, q1, q2, q3⟩ := d2.1 (m + 1) G1
    have q4 : G2 k = x := by rw [q3 k (by omega), e2]
    refine ⟨upd G2 k (f x y), ?_, pk_us, fun j hj => by rw [pk_un (by omega), q3 j (by omega)]; exact e3 j hj⟩
    rw [show m + (c + 1 - a) = m + 1 + (c - b) + (b - a) from by omega, e1, q1, c_step hc he (h1 G2), q4, q2]
  · obtain ⟨P1, e1, e2, e3, e4⟩ := d1.2 (m + 1 + (c - b)) p
    obtain ⟨P2, q1, q2, q3, q5⟩ := d2.2 (m + 1) P1
    have q4 : P2 k = x := by rw [q3 k (by omega), e2]
    refine ⟨upd P2 k (f x y), ?_, pk_us, fun j hj => by rw [pk_un (by omega), q3 j (by omega)]; exact e3 j hj, fun z => ?_⟩
    · rw [show m + (c + 1 - a) = m + 1 + (c - b) + (b - a) from by omega, e1, q1, (h2 m P2).1, q4, q2]
    · rw [show m + (c + 1 - a) = m + 1 + (c - b) + (b - a) from by omega]
      exact e4 (q5 ((h2 m P2).2 (by rw [q4, q2]; exact z)))
theorem ev_num {n a b h : Nat} (hr : r < n) (hn : n ≤ 60) (hT : ∀ j, j < 6 * n → tb j = T j) (he : e ≤ 2000) (d : NumD S W C a b h) : ∀ k, k + h ≤ 64 → b ≤ e → ∃ x, ∀ ho lv : Nat → Int32, EvC S W ho tb T C lv e r a b k x := by
  refine NumD.ind (P := fun a b h => ∀ k, k + h ≤ 64 → b ≤ e → ∃ x, ∀ ho lv : Nat → Int32, EvC S W ho tb T C lv e r a b k x) ?_ ?_ ?_ ?_ d
  · intro i e1 e2 e3 k hk hb
    refine ⟨W i, fun ho lv => ev_push (by omega) he (fun g => by rw [e1]; exact take_2 (by omega)) (fun m p => ?_)⟩
    have := mo_15 (T := T) (lv := lv) (r := r) (m := m) (p := p) (k := k) (i := i) (e := e) (C := C) (by omega) he (by omega) e2
    rw [e3] at this
    exact this
  · intro i c e1 e2 e3 e4 e5 k hk hb
    refine ⟨T (6 * r + c), fun ho lv => ev_push (by omega) he (fun g => by rw [e1, e3, take_3 (by omega) (by omega) e5, hT _ (by omega)]) (fun m p => mo_13 (by omega) he (by omega) e2 e4 e5 (by omega))⟩
  · intro a b h d ih e1 e2 k hk hb
    obtain ⟨x, hx⟩ := ih k hk (by omega)
    exact ⟨-x, fun ho lv => ev_un (f := fun z => -z) d.lt.1 (by omega) he (hx ho lv) (fun g => by rw [e1]; exact take_neg (by have := d.lt; omega)) (fun m p => mo_41 (by omega) he (by have := d.lt; omega) e2)⟩
  · intro a b c h h' s d1 d2 ih1 ih2 k1 k2 e1 e2 k hk hb
    have l1 := d1.lt
    have l2 := d2.lt
    obtain ⟨x, hx⟩ := ih1 k (by omega) (by omega)
    obtain ⟨y, hy⟩ := ih2 (k + 1) (by omega) (by omega)
    refine ⟨s_Cond_joined (nI s) x y, fun ho lv => ev_bin (f := s_Cond_joined (nI s)) l1.1 l2.1 (by omega) he (hx ho lv) (hy ho lv) (fun g => by rw [e1]; exact take_bin (by omega) (by omega) (by omega) (by omega)) (fun m p => ?_)⟩
    have hs : s = 23 ∨ s = 24 ∨ s = 25 := by omega
    rcases hs with rfl | rfl | rfl
    · exact mo_b23 (by omega) he (by omega) e2
    · exact mo_b24 (by omega) he (by omega) e2
    · exact mo_b25 (by omega) he (by omega) e2
theorem judge01 (c x y : Int32) : s_Mo_judge c x y = 0 ∨ s_Mo_judge c x y = 1 := by
  unfold s_Mo_judge
  repeat' split
  all_goals first | exact Or.inl rfl | exact Or.inr rfl
/-- both sides hold the same of the first lets -/
def LvR (X ho lv : Nat → Int32) (L : Nat) : Prop := ∀ l, l < L → lv l = X l ∧ (if ho l = 0 then (0 : Int32) else 1) = X l
theorem ev_boo {X : Nat → Int32} {L n a b h : Nat} (hr : r < n) (hn : n ≤ 60) (hT : ∀ j, j < 6 * n → tb j = T j) (he : e ≤ 2000) (hL : L ≤ 10) (hX : ∀ l, l < L → X l = 0 ∨ X l = 1) (d : BooD S W C L a b h) : ∀ k, k + h ≤ 64 → b ≤ e → ∃ x, (x = 0 ∨ x = 1) ∧ ∀ ho lv : Nat → Int32, LvR X ho lv L → EvC S W ho tb T C lv e r a b k x := by
  refine BooD.ind (P := fun a b h => ∀ k, k + h ≤ 64 → b ≤ e → ∃ x, (x = 0 ∨ x = 1) ∧ ∀ ho lv : Nat → Int32, LvR X ho lv L → EvC S W ho tb T C lv e r a b k x) ?_ ?_ ?_ ?_ d
  · intro i l e1 e2 e3 e4 e5 k hk hb
    refine ⟨X l, hX l e5, fun ho lv hl => ev_push (by omega) he (fun g => by rw [e1, e3, take_4 (by omega) (by omega), (hl l e5).2]) (fun m p => ?_)⟩
    have := mo_40 (T := T) (r := r) (m := m) (p := p) (k := k) (i := i) (e := e) (C := C) (lv := lv) (by omega) he (by omega) e2 e4 (by omega)
    rw [(hl l e5).1] at this
    exact this
  · intro a b c h h' s d1 d2 k1 k2 e1 e2 k hk hb
    have l1 := d1.lt
    have l2 := d2.lt
    obtain ⟨x, hx⟩ := ev_num (e := e) hr hn hT he d1 k (by omega) (by omega)
    obtain ⟨y, hy⟩ := ev_num (e := e) hr hn hT he d2 (k + 1) (by omega) (by omega)
    have hb2 : ∀ ho lv : Nat → Int32, EvC S W ho tb T C lv e r a (c + 1) k (s_Cond_joined (nI s) x y) := by
      intro ho lv
      refine ev_bin (f := s_Cond_joined (nI s)) l1.1 l2.1 (by omega) he (hx ho lv) (hy ho lv) (fun g => by rw [e1]; exact take_bin (by omega) (by omega) (by omega) (by omega)) (fun m p => ?_)
      have hs : s = 17 ∨ s = 18 ∨ s = 19 ∨ s = 20 ∨ s = 21 ∨ s = 22 := by omega
      rcases hs with rfl | rfl | rfl | rfl | rfl | rfl
      · exact mo_b17 (by omega) he (by omega) e2
      · exact mo_b18 (by omega) he (by omega) e2
      · exact mo_b19 (by omega) he (by omega) e2
      · exact mo_b20 (by omega) he (by omega) e2
      · exact mo_b21 (by omega) he (by omega) e2
      · exact mo_b22 (by omega) he (by omega) e2
    refine ⟨_, ?_, fun ho lv _ => hb2 ho lv⟩
    have hs : s = 17 ∨ s = 18 ∨ s = 19 ∨ s = 20 ∨ s = 21 ∨ s = 22 := by omega
    rcases hs with rfl | rfl | rfl | rfl | rfl | rfl
    · have := judge01 20 x y
      rw [jud_17] at this
      exact this
    · have := judge01 21 x y
      rw [jud_18] at this
      exact this
    · have := judge01 22 x y
      rw [jud_19] at this
      exact this
    · have := judge01 18 x y
      rw [jud_20] at this
      exact this
    · have := judge01 19 x y
      rw [jud_21] at this
      exact this
    · have := judge01 17 x y
      rw [jud_22] at this
      exact this
  · intro a b h d ih e1 e2 k hk hb
    obtain ⟨x, hx0, hx⟩ := ih k hk (by omega)
    refine ⟨1 - x, ?_, fun ho lv hl => ev_un (f := fun z => 1 - z) d.lt.1 (by omega) he (hx ho lv hl) (fun g => by rw [e1]; exact take_not (by have := d.lt; omega)) (fun m p => mo_10 (by omega) he (by have := d.lt; omega) e2)⟩
    rcases hx0 with rfl | rfl
    · exact Or.inr (by decide)
    · exact Or.inl (by decide)
  · intro a b c h h' s d1 d2 ih1 ih2 k1 k2 e1 e2 k hk hb
    have l1 := d1.lt
    have l2 := d2.lt
    obtain ⟨x, hx0, hx⟩ := ih1 k (by omega) (by omega)
    obtain ⟨y, hy0, hy⟩ := ih2 (k + 1) (by omega) (by omega)
    have hb2 : ∀ ho lv : Nat → Int32, LvR X ho lv L → EvC S W ho tb T C lv e r a (c + 1) k (s_Cond_joined (nI s) x y) := by
      intro ho lv hl
      refine ev_bin (f := s_Cond_joined (nI s)) l1.1 l2.1 (by omega) he (hx ho lv hl) (hy ho lv hl) (fun g => by rw [e1]; exact take_bin (by omega) (by omega) (by omega) (by omega)) (fun m p => ?_)
      have hs : s = 14 ∨ s = 15 := by omega
      rcases hs with rfl | rfl
      · exact mo_b14 (by omega) he (by omega) e2
      · exact mo_b15 (by omega) he (by omega) e2
    refine ⟨_, ?_, hb2⟩
    have hs : s = 14 ∨ s = 15 := by omega
    rcases hs with rfl | rfl
    · rcases hx0 with rfl | rfl <;> rcases hy0 with rfl | rfl <;> first | exact Or.inl (by decide) | exact Or.inr (by decide)
    · rcases hx0 with rfl | rfl <;> rcases hy0 with rfl | rfl <;> first | exact Or.inl (by decide) | exact Or.inr (by decide)
/-- a whole condition -/
theorem hold_eq {X : Nat → Int32} {L n a b h : Nat} (hr : r < n) (hn : n ≤ 60) (hT : ∀ j, j < 6 * n → tb j = T j) (hL : L ≤ 10) (hX : ∀ l, l < L → X l = 0 ∨ X l = 1) (d : BooD S W C L a b h) (hh : h ≤ 64) (hb : b ≤ 2000) :
    ∃ x : Int32, (x = 0 ∨ x = 1) ∧ ∀ ho lv : Nat → Int32, LvR X ho lv L → (∀ (st : Nat → Int32) (hg : Int32), ∃ (hg' : Int32) (st' : Nat → Int32), s_Cond_hold S W st hg ho tb (nI a) (nI b) (nI r) = (x, hg', st')) ∧
      (∀ p : Nat → Int32, ∃ p' : Nat → Int32, lp_Mo_work_6 T C lv (nI (2 * b)) (nI r) 2001 (0 : Int32) (nI (2 * a)) p = (x, p') ∧ ok_Mo_work T C p lv (nI (2 * a)) (nI (2 * b)) (nI r)) := by
  have hab := d.lt.1
  obtain ⟨x, hx, ev⟩ := ev_boo (e := b) hr hn hT hb hL hX d 0 (by omega) (Nat.le_refl _)
  refine ⟨x, hx, fun ho lv hl => ?_⟩
  obtain ⟨ev1, ev2⟩ := ev ho lv hl
  refine ⟨fun st hg => ?_, fun p => ?_⟩
  · obtain ⟨G, e1, e2, -⟩ := ev1 1 st
    refine ⟨nI 0, G, ?_⟩
    unfold s_Cond_hold
    rw [if_pos (nI_lt hab (by omega)), if_neg (nI_pos (show a < 2 ^ 31 by omega)), nI_toInt (by omega), nI_toInt (by omega), show ((b : Int) - (a : Int)).toNat + 1 = 1 + (b - a) from by omega]
    have e1' : lp_Cond_hold S W ho tb (nI b) (nI r) (1 + (b - a)) (nI a) st (0 : Int32) = lp_Cond_hold S W ho tb (nI b) (nI r) 1 (nI b) G (nI 1) := e1
    rw [e1', lp_Cond_hold, if_pos (nI_le (Nat.le_refl _) (by omega)), pop_nI (k := 0) (by decide), e2]
    dsimp only
    rcases hx with rfl | rfl
    · rw [if_pos rfl]
    · rw [if_neg (by decide)]
  · obtain ⟨P, e1, e2, -, e4⟩ := ev2 (2001 - (b - a)) p
    rw [show 2001 - (b - a) + (b - a) = 2001 from by omega] at e1 e4
    have hle : nI (2 * b) ≤ nI (2 * b) := nI_le (Nat.le_refl _) (by omega)
    obtain ⟨m, hm⟩ : ∃ m, 2001 - (b - a) = m + 1 := ⟨2000 - (b - a), by omega⟩
    refine ⟨P, ?_, ?_⟩
    · have e1' : lp_Mo_work_6 T C lv (nI (2 * b)) (nI r) 2001 (0 : Int32) (nI (2 * a)) p = lp_Mo_work_6 T C lv (nI (2 * b)) (nI r) (2001 - (b - a)) (nI 1) (nI (2 * b)) P := e1
      rw [e1', hm, lp_Mo_work_6, if_pos hle, ← e2]
      rfl
    · refine e4 ?_
      rw [hm, oklp_Mo_work_6, if_pos hle]
      trivial
end EV
