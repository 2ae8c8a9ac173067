/-! statements -/
section TOP8
variable {g K V P : Nat → Int32} {N n : Nat} {e pos : Nat → Nat}
abbrev TT : Type := Int32 × Int32 × Int32 × Int32 × Int32 × Int32 × Int32 × Int32 × Int32 × Int32 × Int32 × Int32 × (Nat → Int32) × (Nat → Int32) × (Nat → Int32) × (Nat → Int32) × (Nat → Int32) × (Nat → Int32) × (Nat → Int32) × (Nat → Int32) × (Nat → Int32) × (Nat → Int32) × (Nat → Int32) × (Nat → Int32) × (Nat → Int32) × (Nat → Int32) × (Nat → Int32) × (Nat → Int32) × (Nat → Int32)
abbrev PT : Type := Int32 × Int32 × Int32 × Int32 × Int32 × Int32 × (Nat → Int32) × (Nat → Int32) × (Nat → Int32) × (Nat → Int32) × (Nat → Int32) × (Nat → Nat → Int32)
def stT (b : Int32) (m : MS) (nl nq : Int32) (told lo lE lb aS aC aL aH aB aT aG aE : Nat → Int32) : TT := (b, m.tk, m.at_, m.pl, m.kd, m.vl, m.dp, m.js, nl, nq, m.sz, m.gc, m.ks, m.vs, told, lo, m.co, lE, lb, aS, aC, aL, aH, aB, aT, aG, aE, m.go, m.wi)
/-- both sides before a statement -/
def TopR (g K V : Nat → Int32) (N n : Nat) (e : Nat → Nat) (m : MS) (t j cs nq nl : Nat) (S W : Nat → Int32) (Q : Nat → Nat → Int32) (ls le LO told lo lE lb aS aC aL aH aB aT aG aE : Nat → Int32) : Prop := At g K V N n e m t ∧ m.js = nI j ∧ j ≤ 150 ∧ m.sz = nI (2 * cs) ∧ cs ≤ t ∧ LetR LO told lo nl ∧ ScrB cs S W Q ls le nq nl m.co lb lE aS aC aL aH aB aT aG aE
/-- the class's loop at a state -/
def plp (K V P : Nat → Int32) (f i t j nq cs : Nat) (S W : Nat → Int32) (Q : Nat → Nat → Int32) (nl : Nat) (ls le LO : Nat → Int32) : PT := lp_Par_parse_2 K V P f (nI i) (nI t) (nI j) (nI nq) (nI cs) S W Q (nI nl) ls le LO
def pok (K V P : Nat → Int32) (f i t j nq cs : Nat) (S W : Nat → Int32) (Q : Nat → Nat → Int32) (nl : Nat) (ls le LO : Nat → Int32) : Prop := oklp_Par_parse_2 K V P f (nI i) (nI t) (nI j) (nI nq) (nI cs) S W Q (nI nl) ls le LO
/-- the reference's statement at a state -/
def mst (g : Nat → Int32) (sg : Int32) (m : MS) (nl nq : Int32) (told lo lE lb aS aC aL aH aB aT aG aE : Nat → Int32) : TT := s_Mo_readStatement g sg m.ks m.vs m.tk m.at_ m.pl m.kd m.vl m.dp m.js nl nq told lo m.co m.sz lE lb aS aC aL aH aB aT aG aE m.go m.wi m.gc
def mok (g : Nat → Int32) (sg : Int32) (m : MS) (nl nq : Int32) (told lo lE lb aS aC aL aH aB aT aG aE : Nat → Int32) : Prop := ok_Mo_readStatement g sg m.ks m.vs m.tk m.at_ m.pl m.kd m.vl m.dp m.js nl nq told lo m.co m.sz lE lb aS aC aL aH aB aT aG aE m.go m.wi m.gc
/-- a statement was read on both sides -/
def StOK (g K V P : Nat → Int32) (N n : Nat) (e : Nat → Nat) (i t : Nat) (r : Nat → PT) (ro : Nat → Prop) (rm : TT) : Prop := ∃ (m' : MS) (t' j' cs' nq' nl' : Nat) (S' W' : Nat → Int32) (Q' : Nat → Nat → Int32) (ls' le' LO' told' lo' lE' lb' aS' aC' aL' aH' aB' aT' aG' aE' : Nat → Int32), TopR g K V N n e m' t' j' cs' nq' nl' S' W' Q' ls' le' LO' told' lo' lE' lb' aS' aC' aL' aH' aB' aT' aG' aE' ∧ rm = stT 1 m' (nI nl') (nI nq') told' lo' lE' lb' aS' aC' aL' aH' aB' aT' aG' aE' ∧ nl' + nq' = i + 1 ∧ t < t' ∧ K (t' - 1) = nI 26 ∧ (K t' = 0 → ∀ f, r (f + 1) = (-1, nI t', nI j', nI nq', nI nl', nI cs', S', W', ls', le', LO', Q') ∧ ro (f + 1)) ∧ (¬ K t' = 0 → ∀ f, r (f + 1) = plp K V P f (i + 1) t' j' nq' cs' S' W' Q' nl' ls' le' LO' ∧ (pok K V P f (i + 1) t' j' nq' cs' S' W' Q' nl' ls' le' LO' → ro (f + 1)))
def StNo (P : Nat → Int32) (n : Nat) (r : Nat → PT) (ro : Nat → Prop) (rm : TT) : Prop := ∃ t' : Nat, t' ≤ n ∧ rm.1 = 0 ∧ rm.2.2.2.1 = P t' ∧ ∀ f, (r (f + 1)).1 = P t' ∧ ro (f + 1)
theorem at_pl {t : Nat} {α : Type} (ht : t ≤ 2000) (a : α) (b : α) : (if (2001 : Int32) ≤ nI t then a else b) = b := if_neg (geL (N := 2001) (b := 2001) rfl (by omega) (by decide))
set_option maxHeartbeats 40000000 in
set_option maxRecDepth 100000 in
theorem step_sim (L : LexR g K V P N n e pos) {m : MS} {t j cs nq nl : Nat} {S W : Nat → Int32} {Q : Nat → Nat → Int32} {ls le LO told lo lE lb aS aC aL aH aB aT aG aE : Nat → Int32} (T : TopR g K V N n e m t j cs nq nl S W Q ls le LO told lo lE lb aS aC aL aH aB aT aG aE) :
    mok g (nI N) m (nI nl) (nI nq) told lo lE lb aS aC aL aH aB aT aG aE ∧ (StOK g K V P N n e (nl + nq) t (fun f => plp K V P f (nl + nq) t j nq cs S W Q nl ls le LO) (fun f => pok K V P f (nl + nq) t j nq cs S W Q nl ls le LO) (mst g (nI N) m (nI nl) (nI nq) told lo lE lb aS aC aL aH aB aT aG aE) ∨ StNo P n (fun f => plp K V P f (nl + nq) t j nq cs S W Q nl ls le LO) (fun f => pok K V P f (nl + nq) t j nq cs S W Q nl ls le LO) (mst g (nI N) m (nI nl) (nI nq) told lo lE lb aS aC aL aH aB aT aG aE)) := by
  obtain ⟨hat, hj, hj2, hs, hc, R, B⟩ := T
  have hn := L.le
  have hN := L.hN
  have ht := hat.1
  have hl10 := B.2.1
  have hq12 := B.1
  have hu : up (nI t) 2001 := up_of (by omega) (by decide)
  have h22 : ¬ (22 : Int32) < nI (nl + nq) := nltL (N := 22) (a := 22) rfl (by omega) (by decide)
  obtain ⟨k, k1, k2, k3, k4, k5, k6⟩ := hat.view L
  by_cases c : k = 5
  · -- let
    subst c
    have kd1 : m.kd = 1 := k3
    obtain ⟨a1, a2, a3⟩ := let_sim (S := S) (W := W) (ls := ls) (le := le) (lE := lE) (lb := lb) L R hat k2 kd1 hj hj2 hs hc
    have hk5 : s_Par_kind K (nI t) = 5 := (par_kind (by omega)).trans k2
    unfold mok mst ok_Mo_readStatement s_Mo_readStatement
    rw [if_pos kd1, if_pos kd1]
    dsimp only
    have ep : ∀ f, plp K V P (f + 1) (nl + nq) t j nq cs S W Q nl ls le LO = lp_Par_parse_2 K V P (f + 1) (nI (nl + nq)) (nI t) (nI j) (nI nq) (nI cs) S W Q (nI nl) ls le LO := fun _ => rfl
    rcases a3 with ⟨t', j', cs', v, h, S', W', m', b1, b2, b3, b4, b5, b6, b7, b8, b9, d1, d2, d3, d4, d5, d6, d7⟩ | ⟨t', m', nl', told', lo', lE', lb', b1, b2, b3, b4, b5⟩
    · rw [b2]
      unfold leT
      dsimp only
      rw [if10, if10]
      have hpi' := d2.pi L
      have hut : up (nI t') 2001 := up_of (by have := d2.1; omega) (by decide)
      have ht'n := d2.1
      rcases take_sim L d2 26 26 16 (by decide) (by decide) rfl rfl with ⟨x1, x2, x3, x4, x5, -, m2, n2, x7⟩ | ⟨x1, x2, x3⟩
      · rw [n2.one x2]
        dsimp only
        rw [if10, if10]
        refine ⟨⟨a2, hpi', trivial⟩, Or.inl ⟨m2, t' + 1, j', cs', nq, nl + 1, S', W', Q, upd ls nl (nI cs), upd le nl (nI cs'), upd LO v (nI nl), upd told v 1, upd lo v (nI nl), upd lE nl (nI (2 * cs')), upd lb nl (nI (2 * cs)), aS, aC, aL, aH, aB, aT, aG, aE, ⟨x7, n2.js.trans d3, b8, n2.sz.trans d4, by omega, R.add b3, by rw [n2.co]; exact B.addL b3 b6 b9 d1 d5 d6 (by omega)⟩, by unfold stT; rw [n2.js, n2.sz, n2.co, n2.dp, n2.gc, n2.go, n2.wi], by omega, by omega, x3, fun z f => ?_, fun z f => ?_⟩⟩
        · have z' : s_Par_kind K (nI (t' + 1)) = 0 := (par_kind (by omega)).trans z
          dsimp only
          unfold plp pok
          rw [lp_Par_parse_2, oklp_Par_parse_2, if_neg h22, if_neg h22, hk5]
          dsimp only
          rw [if_pos (show (5 : Int32) = 5 from rfl), if_pos (show (5 : Int32) = 5 from rfl), b1]
          dsimp only
          rw [if10, if10, x1]
          dsimp only
          rw [if10, if10, z']
          exact ⟨rfl, hu, a1, hut, trivial⟩
        · have z' : ¬ s_Par_kind K (nI (t' + 1)) = 0 := by rw [par_kind (by omega)]; exact z
          dsimp only
          unfold plp pok
          rw [lp_Par_parse_2, oklp_Par_parse_2, if_neg h22, if_neg h22, hk5]
          dsimp only
          rw [if_pos (show (5 : Int32) = 5 from rfl), if_pos (show (5 : Int32) = 5 from rfl), b1]
          dsimp only
          rw [if10, if10, x1]
          dsimp only
          rw [if10, if10, if_neg z', if_neg z', nI_1]
          exact ⟨rfl, fun q => ⟨hu, a1, hut, q⟩⟩
      · rw [one_n x2]
        dsimp only
        rw [if_pos (show (0 : Int32) = 0 from rfl), if_pos (show (0 : Int32) = 0 from rfl)]
        obtain ⟨k', -, -, -, z4, -, -⟩ := d2.view L
        refine ⟨⟨a2, hpi', trivial⟩, Or.inr ⟨t', ht'n, rfl, z4, fun f => ?_⟩⟩
        dsimp only
        unfold plp pok
        rw [lp_Par_parse_2, oklp_Par_parse_2, if_neg h22, if_neg h22, hk5]
        dsimp only
        rw [if_pos (show (5 : Int32) = 5 from rfl), if_pos (show (5 : Int32) = 5 from rfl), b1]
        dsimp only
        rw [if10, if10, x1]
        dsimp only
        rw [if_pos (show (0 : Int32) = 0 from rfl), if_pos (show (0 : Int32) = 0 from rfl), at_pl (by omega), at_pl (by omega), nI_clamp (by omega)]
        exact ⟨rfl, hu, a1, hut, trivial⟩
    · rw [b4]
      unfold leT
      dsimp only
      rw [if_pos (show (0 : Int32) = 0 from rfl), if_pos (show (0 : Int32) = 0 from rfl)]
      refine ⟨⟨a2, trivial⟩, Or.inr ⟨t', b3, rfl, b5, fun f => ?_⟩⟩
      dsimp only
      unfold plp pok
      rw [lp_Par_parse_2, oklp_Par_parse_2, if_neg h22, if_neg h22, hk5]
      dsimp only
      rw [if_pos (show (5 : Int32) = 5 from rfl), if_pos (show (5 : Int32) = 5 from rfl), if_pos b1, if_pos b1, b2, at_pl (by omega), at_pl (by omega), nI_clamp (by omega)]
      exact ⟨rfl, hu, a1, vp_in_nI (by omega) (by decide), trivial⟩
  · -- a question, or neither
    have hk5 : ¬ s_Par_kind K (nI t) = 5 := by
      rw [par_kind (by omega), k2]
      exact neR (N := 5) (j := 5) rfl (by omega) (by decide) c
    have kd1 : ¬ m.kd = 1 := kd_ne (x := 5) k3 k1 (by decide) c
    unfold mok mst ok_Mo_readStatement s_Mo_readStatement
    rw [if_neg kd1, if_neg kd1]
    dsimp only
    by_cases d : k = 6 ∨ k = 7 ∨ k = 8
    · obtain ⟨a1, a2, a3⟩ := ques_sim (S := S) (W := W) (aS := aS) (aC := aC) (aL := aL) (aH := aH) (aB := aB) (aT := aT) (aG := aG) (aE := aE) (Q := Q) L R hat d k2 k3 hj hj2 hs hc hq12
      have hin : ¬ s_Mo_in m.kd 2 4 = 0 := by
        rw [k3]
        rcases d with rfl | rfl | rfl <;> decide
      rw [if_neg hin, if_neg hin]
      rcases a3 with ⟨t', j', cs', S', W', F, aS', aC', aL', aH', aB', aT', aG', aE', m', b1, b2, b3, b4, b5, b6, b7, b8, b9, d1, d2, d3, d4, d5⟩ | ⟨t', b1, b2, b3, b4, b5⟩
      · rw [b2]
        unfold quT
        dsimp only
        rw [if10, if10]
        have hpi' := b9.pi L
        have hut : up (nI t') 2001 := up_of (by have := b9.1; omega) (by decide)
        have ht'n := b9.1
        have hqlt : nq < 12 := by
          by_cases q : nq < 12
          · exact q
          · exfalso
            have q12 : nq = 12 := by omega
            rw [q12] at b1
            unfold s_Par_asks at b1
            rw [if_neg (show ¬ nI 12 < 12 by decide)] at b1
            exact absurd (show (0 : Int32) = 1 from congrArg Prod.fst b1) (by decide)
        rcases take_sim L b9 26 26 16 (by decide) (by decide) rfl rfl with ⟨x1, x2, x3, x4, x5, -, m2, n2, x7⟩ | ⟨x1, x2, x3⟩
        · rw [n2.one x2]
          dsimp only
          rw [if10, if10]
          refine ⟨⟨a2, hpi', trivial⟩, Or.inl ⟨m2, t' + 1, j', cs', nq + 1, nl, S', W', updQ Q nq F, ls, le, LO, told, lo, lE, lb, aS', aC', aL', aH', aB', aT', aG', aE', ⟨x7, n2.js.trans d1, b6, n2.sz.trans d2, by omega, R, by rw [n2.co]; exact B.addQ hqlt b4 b7 b8 d3 d4 d5⟩, by unfold stT; rw [n2.js, n2.sz, n2.co, n2.dp, n2.gc, n2.go, n2.wi], by omega, by omega, x3, fun z f => ?_, fun z f => ?_⟩⟩
          · have z' : s_Par_kind K (nI (t' + 1)) = 0 := (par_kind (by omega)).trans z
            dsimp only
            unfold plp pok
            rw [lp_Par_parse_2, oklp_Par_parse_2, if_neg h22, if_neg h22]
            dsimp only
            rw [if_neg hk5, if_neg hk5, b1]
            dsimp only
            rw [if10, if10, x1]
            dsimp only
            rw [if10, if10, z']
            exact ⟨rfl, hu, a1, hut, trivial⟩
          · have z' : ¬ s_Par_kind K (nI (t' + 1)) = 0 := by rw [par_kind (by omega)]; exact z
            dsimp only
            unfold plp pok
            rw [lp_Par_parse_2, oklp_Par_parse_2, if_neg h22, if_neg h22]
            dsimp only
            rw [if_neg hk5, if_neg hk5, b1]
            dsimp only
            rw [if10, if10, x1]
            dsimp only
            rw [if10, if10, if_neg z', if_neg z', nI_1]
            exact ⟨rfl, fun q => ⟨hu, a1, hut, q⟩⟩
        · rw [one_n x2]
          dsimp only
          rw [if_pos (show (0 : Int32) = 0 from rfl), if_pos (show (0 : Int32) = 0 from rfl)]
          obtain ⟨k', -, -, -, z4, -, -⟩ := b9.view L
          refine ⟨⟨a2, hpi', trivial⟩, Or.inr ⟨t', ht'n, rfl, z4, fun f => ?_⟩⟩
          dsimp only
          unfold plp pok
          rw [lp_Par_parse_2, oklp_Par_parse_2, if_neg h22, if_neg h22]
          dsimp only
          rw [if_neg hk5, if_neg hk5, b1]
          dsimp only
          rw [if10, if10, x1]
          dsimp only
          rw [if_pos (show (0 : Int32) = 0 from rfl), if_pos (show (0 : Int32) = 0 from rfl), at_pl (by omega), at_pl (by omega), nI_clamp (by omega)]
          exact ⟨rfl, hu, a1, hut, trivial⟩
      · rw [if_pos b4, if_pos b4]
        refine ⟨⟨a2, trivial⟩, Or.inr ⟨t', b3, rfl, b5, fun f => ?_⟩⟩
        dsimp only
        unfold plp pok
        rw [lp_Par_parse_2, oklp_Par_parse_2, if_neg h22, if_neg h22]
        dsimp only
        rw [if_neg hk5, if_neg hk5, if_pos b1, if_pos b1, b2, at_pl (by omega), at_pl (by omega), nI_clamp (by omega)]
        exact ⟨rfl, hu, a1, vp_in_nI (by omega) (by decide), trivial⟩
    · have hin : s_Mo_in m.kd 2 4 = 0 := by
        rw [k3]
        have hall : ∀ k, k < 31 → (k = 5 ∨ k = 6 ∨ k = 7 ∨ k = 8 ∨ s_Mo_in (nI (km k)) 2 4 = 0) := by decide
        rcases hall k k1 with h | h | h | h | h
        · exact absurd h c
        · exact absurd (Or.inl h) d
        · exact absurd (Or.inr (Or.inl h)) d
        · exact absurd (Or.inr (Or.inr h)) d
        · exact h
      rw [if_pos hin, if_pos hin]
      have e6 : s_Par_take K (nI t) 6 = (0, nI t) := (par_take (show t ≤ 2000 by omega) k2 k1 (show 6 < 31 by decide)).trans (if_neg (fun q => d (Or.inl q)))
      have e7 : s_Par_take K (nI t) 7 = (0, nI t) := (par_take (show t ≤ 2000 by omega) k2 k1 (show 7 < 31 by decide)).trans (if_neg (fun q => d (Or.inr (Or.inl q))))
      have e8 : s_Par_take K (nI t) 8 = (0, nI t) := (par_take (show t ≤ 2000 by omega) k2 k1 (show 8 < 31 by decide)).trans (if_neg (fun q => d (Or.inr (Or.inr q))))
      have hasks : ok_Par_asks K V S W (nI cs) Q (nI nq) LO (nI t) (nI j) ∧ (s_Par_asks K V S W (nI cs) Q (nI nq) LO (nI t) (nI j)).1 = 0 ∧ (s_Par_asks K V S W (nI cs) Q (nI nq) LO (nI t) (nI j)).2.1 = nI t := by
        by_cases q : nq < 12
        · refine asks_hfail q (by omega) ?_ ?_
          · unfold s_Par_head
            rw [e6]
            dsimp only
            rw [if_pos (show (0 : Int32) = 0 from rfl), e7]
            dsimp only
            rw [if_pos (show (0 : Int32) = 0 from rfl), e8]
            rfl
          · unfold s_Par_head
            rw [e6]
            dsimp only
            rw [if_pos (show (0 : Int32) = 0 from rfl), e7]
            dsimp only
            rw [if_pos (show (0 : Int32) = 0 from rfl), e8]
            rfl
        · have q12 : nq = 12 := by omega
          rw [q12]
          unfold ok_Par_asks s_Par_asks
          rw [if_neg (show ¬ nI 12 < 12 by decide), if_neg (show ¬ nI 12 < 12 by decide)]
          exact ⟨trivial, rfl, rfl⟩
      obtain ⟨f1, f2, f3⟩ := hasks
      refine ⟨trivial, Or.inr ⟨t, ht, rfl, k4, fun f => ?_⟩⟩
      dsimp only
      unfold plp pok
      rw [lp_Par_parse_2, oklp_Par_parse_2, if_neg h22, if_neg h22]
      dsimp only
      rw [if_neg hk5, if_neg hk5, if_pos f2, if_pos f2, f3, at_pl (by omega), at_pl (by omega), nI_clamp (by omega)]
      exact ⟨rfl, hu, f1, vp_in_nI (by omega) (by decide), trivial⟩
end TOP8
