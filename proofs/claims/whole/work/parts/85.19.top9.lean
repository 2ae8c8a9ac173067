/-! the whole script -/
section TOP9
variable {g K V P : Nat → Int32} {N n : Nat} {e pos : Nat → Nat}
abbrev OT : Type := Int32 × Int32 × Int32 × Int32 × Int32 × Int32 × Int32 × Int32 × Int32 × Int32 × Int32 × Int32 × Int32 × (Nat → Int32) × (Nat → Int32) × (Nat → Int32) × (Nat → Int32) × (Nat → Int32) × (Nat → Int32) × (Nat → Int32) × (Nat → Int32) × (Nat → Int32) × (Nat → Int32) × (Nat → Int32) × (Nat → Int32) × (Nat → Int32) × (Nat → Int32) × (Nat → Int32) × (Nat → Int32) × (Nat → Int32)
def loT (u : Int32) (m : MS) (nl nq w : Int32) (told lo lE lb aS aC aL aH aB aT aG aE : Nat → Int32) : OT := (u, m.tk, m.at_, m.pl, m.kd, m.vl, m.dp, m.js, nl, nq, w, m.sz, m.gc, m.ks, m.vs, told, lo, m.co, lE, lb, aS, aC, aL, aH, aB, aT, aG, aE, m.go, m.wi)
/-- the reference's loop after a statement -/
def llp (g : Nat → Int32) (sg : Int32) (f : Nat) (w : Int32) (r : TT) : OT := lp_Mo_read_65 g sg f r.1 r.2.1 r.2.2.1 r.2.2.2.1 r.2.2.2.2.1 r.2.2.2.2.2.1 r.2.2.2.2.2.2.1 r.2.2.2.2.2.2.2.1 r.2.2.2.2.2.2.2.2.1 r.2.2.2.2.2.2.2.2.2.1 w r.2.2.2.2.2.2.2.2.2.2.1 r.2.2.2.2.2.2.2.2.2.2.2.1 r.2.2.2.2.2.2.2.2.2.2.2.2.1 r.2.2.2.2.2.2.2.2.2.2.2.2.2.1 r.2.2.2.2.2.2.2.2.2.2.2.2.2.2.1 r.2.2.2.2.2.2.2.2.2.2.2.2.2.2.2.1 r.2.2.2.2.2.2.2.2.2.2.2.2.2.2.2.2.1 r.2.2.2.2.2.2.2.2.2.2.2.2.2.2.2.2.2.1 r.2.2.2.2.2.2.2.2.2.2.2.2.2.2.2.2.2.2.1 r.2.2.2.2.2.2.2.2.2.2.2.2.2.2.2.2.2.2.2.1 r.2.2.2.2.2.2.2.2.2.2.2.2.2.2.2.2.2.2.2.2.1 r.2.2.2.2.2.2.2.2.2.2.2.2.2.2.2.2.2.2.2.2.2.1 r.2.2.2.2.2.2.2.2.2.2.2.2.2.2.2.2.2.2.2.2.2.2.1 r.2.2.2.2.2.2.2.2.2.2.2.2.2.2.2.2.2.2.2.2.2.2.2.1 r.2.2.2.2.2.2.2.2.2.2.2.2.2.2.2.2.2.2.2.2.2.2.2.2.1 r.2.2.2.2.2.2.2.2.2.2.2.2.2.2.2.2.2.2.2.2.2.2.2.2.2.1 r.2.2.2.2.2.2.2.2.2.2.2.2.2.2.2.2.2.2.2.2.2.2.2.2.2.2.1 r.2.2.2.2.2.2.2.2.2.2.2.2.2.2.2.2.2.2.2.2.2.2.2.2.2.2.2.1 r.2.2.2.2.2.2.2.2.2.2.2.2.2.2.2.2.2.2.2.2.2.2.2.2.2.2.2.2
def lok (g : Nat → Int32) (sg : Int32) (f : Nat) (w : Int32) (r : TT) : Prop := oklp_Mo_read_65 g sg f r.1 r.2.1 r.2.2.1 r.2.2.2.1 r.2.2.2.2.1 r.2.2.2.2.2.1 r.2.2.2.2.2.2.1 r.2.2.2.2.2.2.2.1 r.2.2.2.2.2.2.2.2.1 r.2.2.2.2.2.2.2.2.2.1 w r.2.2.2.2.2.2.2.2.2.2.1 r.2.2.2.2.2.2.2.2.2.2.2.1 r.2.2.2.2.2.2.2.2.2.2.2.2.1 r.2.2.2.2.2.2.2.2.2.2.2.2.2.1 r.2.2.2.2.2.2.2.2.2.2.2.2.2.2.1 r.2.2.2.2.2.2.2.2.2.2.2.2.2.2.2.1 r.2.2.2.2.2.2.2.2.2.2.2.2.2.2.2.2.1 r.2.2.2.2.2.2.2.2.2.2.2.2.2.2.2.2.2.1 r.2.2.2.2.2.2.2.2.2.2.2.2.2.2.2.2.2.2.1 r.2.2.2.2.2.2.2.2.2.2.2.2.2.2.2.2.2.2.2.1 r.2.2.2.2.2.2.2.2.2.2.2.2.2.2.2.2.2.2.2.2.1 r.2.2.2.2.2.2.2.2.2.2.2.2.2.2.2.2.2.2.2.2.2.1 r.2.2.2.2.2.2.2.2.2.2.2.2.2.2.2.2.2.2.2.2.2.2.1 r.2.2.2.2.2.2.2.2.2.2.2.2.2.2.2.2.2.2.2.2.2.2.2.1 r.2.2.2.2.2.2.2.2.2.2.2.2.2.2.2.2.2.2.2.2.2.2.2.2.1 r.2.2.2.2.2.2.2.2.2.2.2.2.2.2.2.2.2.2.2.2.2.2.2.2.2.1 r.2.2.2.2.2.2.2.2.2.2.2.2.2.2.2.2.2.2.2.2.2.2.2.2.2.2.1 r.2.2.2.2.2.2.2.2.2.2.2.2.2.2.2.2.2.2.2.2.2.2.2.2.2.2.2.1 r.2.2.2.2.2.2.2.2.2.2.2.2.2.2.2.2.2.2.2.2.2.2.2.2.2.2.2.2
/-- it ends when nothing stood there -/
theorem llp_no {sg : Int32} {f : Nat} {w : Int32} {r : TT} (h : r.1 = 0) : (llp g sg (f + 1) w r).1 = 0 ∧ (llp g sg (f + 1) w r).2.2.2.1 = r.2.2.2.1 ∧ lok g sg (f + 1) w r := by
  unfold llp lok
  rw [lp_Mo_read_65, oklp_Mo_read_65, if_pos h, if_pos h]
  exact ⟨h, rfl, trivial⟩
theorem llp_end {sg : Int32} {f : Nat} {w : Int32} {m : MS} {nl nq : Int32} {told lo lE lb aS aC aL aH aB aT aG aE : Nat → Int32} (h : m.kd = 30) : llp g sg (f + 1) w (stT 1 m nl nq told lo lE lb aS aC aL aH aB aT aG aE) = loT 1 m nl nq (w + 1) told lo lE lb aS aC aL aH aB aT aG aE ∧ lok g sg (f + 1) w (stT 1 m nl nq told lo lE lb aS aC aL aH aB aT aG aE) := by
  unfold llp lok stT
  dsimp only
  rw [lp_Mo_read_65, oklp_Mo_read_65, if10, if10, if_pos h, if_pos h]
  exact ⟨rfl, trivial⟩
theorem llp_on {sg : Int32} {f : Nat} {w : Int32} {m : MS} {nl nq : Int32} {told lo lE lb aS aC aL aH aB aT aG aE : Nat → Int32} (h : ¬ m.kd = 30) : llp g sg (f + 1) w (stT 1 m nl nq told lo lE lb aS aC aL aH aB aT aG aE) = llp g sg f (w + 1) (mst g sg m nl nq told lo lE lb aS aC aL aH aB aT aG aE) ∧ (mok g sg m nl nq told lo lE lb aS aC aL aH aB aT aG aE → lok g sg f (w + 1) (mst g sg m nl nq told lo lE lb aS aC aL aH aB aT aG aE) → lok g sg (f + 1) w (stT 1 m nl nq told lo lE lb aS aC aL aH aB aT aG aE)) := by
  unfold llp lok stT mst mok
  dsimp only
  rw [lp_Mo_read_65, oklp_Mo_read_65, if10, if10, if_neg h, if_neg h]
  exact ⟨rfl, fun p q => ⟨p, q⟩⟩
theorem LexR.pnn (L : LexR g K V P N n e pos) {t : Nat} (ht : t ≤ n) : ∃ p : Nat, p < 2 ^ 31 ∧ P t = nI p := by
  have hN := L.hN
  by_cases c : t < n
  · obtain ⟨k, v, h1, h2, h3, h4, h5, h6, h7, h8, h9⟩ := L.tok t c
    exact ⟨pos t, by omega, h4⟩
  · have hn : t = n := by omega
    subst hn
    obtain ⟨f1, f2, f3⟩ := L.fin
    rcases f3 with ⟨a1, a2, a3⟩ | ⟨a1, p, a, v, a2, a3, a4⟩
    · exact ⟨N, by omega, a2⟩
    · exact ⟨p, by omega, a3⟩
/-- how both end -/
def FinR (g K V P : Nat → Int32) (N n : Nat) (e : Nat → Nat) (r : PT) (rl : OT) : Prop :=
  (∃ (m : MS) (t j cs nq nl : Nat) (S W : Nat → Int32) (Q : Nat → Nat → Int32) (ls le LO told lo lE lb aS aC aL aH aB aT aG aE : Nat → Int32), TopR g K V N n e m t j cs nq nl S W Q ls le LO told lo lE lb aS aC aL aH aB aT aG aE ∧ t = n ∧ 1 ≤ t ∧ K (t - 1) = nI 26 ∧ r = (-1, nI t, nI j, nI nq, nI nl, nI cs, S, W, ls, le, LO, Q) ∧ rl = loT 1 m (nI nl) (nI nq) (nI (nl + nq)) told lo lE lb aS aC aL aH aB aT aG aE) ∨
  (∃ t' : Nat, t' ≤ n ∧ r.1 = P t' ∧ rl.1 = 0 ∧ rl.2.2.2.1 = P t')
theorem end_k (L : LexR g K V P N n e pos) {m : MS} {t : Nat} (hat : At g K V N n e m t) : (K t = 0 → m.kd = 30 ∧ t = n) ∧ (¬ K t = 0 → ¬ m.kd = 30) := by
  obtain ⟨k, k1, k2, k3, k4, k5, k6⟩ := hat.view L
  have ht := hat.1
  constructor
  · intro h
    have hk : k = 0 := (nI_eq (by omega) (by omega)).mp (k2.symm.trans h)
    subst hk
    refine ⟨k3, ?_⟩
    by_cases c : t < n
    · exact absurd (k6 c) (by decide)
    · omega
  · intro h q
    apply h
    have hk : k = 0 := (km_eq k1 (by decide)).mp (k3.symm.trans q)
    rw [k2, hk]
    rfl
theorem loop_sim (L : LexR g K V P N n e pos) : ∀ (R : Nat) (m : MS) (t j cs nq nl : Nat) (S W : Nat → Int32) (Q : Nat → Nat → Int32) (ls le LO told lo lE lb aS aC aL aH aB aT aG aE : Nat → Int32), TopR g K V N n e m t j cs nq nl S W Q ls le LO told lo lE lb aS aC aL aH aB aT aG aE → nl + nq + R = 23 → 1 ≤ nl + nq → ¬ K t = 0 → ∀ a b : Nat,
    pok K V P (R + 1 + a) (nl + nq) t j nq cs S W Q nl ls le LO ∧ lok g (nI N) (R + 2 + b) (nI (nl + nq - 1)) (stT 1 m (nI nl) (nI nq) told lo lE lb aS aC aL aH aB aT aG aE) ∧ FinR g K V P N n e (plp K V P (R + 1 + a) (nl + nq) t j nq cs S W Q nl ls le LO) (llp g (nI N) (R + 2 + b) (nI (nl + nq - 1)) (stT 1 m (nI nl) (nI nq) told lo lE lb aS aC aL aH aB aT aG aE)) := by
  intro R
  induction R with
  | zero =>
    intro m t j cs nq nl S W Q ls le LO told lo lE lb aS aC aL aH aB aT aG aE T hi h1 hK a b
    have x1 := T.2.2.2.2.2.2.1
    have x2 := T.2.2.2.2.2.2.2.1
    omega
  | succ R ih =>
    intro m t j cs nq nl S W Q ls le LO told lo lE lb aS aC aL aH aB aT aG aE T hi h1 hK a b
    have hkd := (end_k L T.1).2 hK
    obtain ⟨o1, o2⟩ := step_sim L T
    obtain ⟨l1, l2⟩ := llp_on (g := g) (sg := nI N) (f := R + 2 + b) (w := nI (nl + nq - 1)) (nl := nI nl) (nq := nI nq) (told := told) (lo := lo) (lE := lE) (lb := lb) (aS := aS) (aC := aC) (aL := aL) (aH := aH) (aB := aB) (aT := aT) (aG := aG) (aE := aE) hkd
    rw [nI_1, show nl + nq - 1 + 1 = nl + nq from by omega] at l1 l2
    rw [show R + 1 + 2 + b = (R + 2 + b) + 1 from by omega, show R + 1 + 1 + a = (R + 1 + a) + 1 from by omega, l1]
    rcases o2 with ⟨m', t', j', cs', nq', nl', S', W', Q', ls', le', LO', told', lo', lE', lb', aS', aC', aL', aH', aB', aT', aG', aE', T', b2, b3, b4, b5, b6, b7⟩ | ⟨t', b1, b2, b3, b4⟩
    · rw [b2] at l2 ⊢
      by_cases z : K t' = 0
      · obtain ⟨z1, z2⟩ := (end_k L T'.1).1 z
        obtain ⟨r1, r2⟩ := b6 z (R + 1 + a)
        obtain ⟨e1, e2⟩ := llp_end (g := g) (sg := nI N) (f := R + 1 + b) (w := nI (nl + nq)) (nl := nI nl') (nq := nI nq') (told := told') (lo := lo') (lE := lE') (lb := lb') (aS := aS') (aC := aC') (aL := aL') (aH := aH') (aB := aB') (aT := aT') (aG := aG') (aE := aE') z1
        rw [show R + 1 + b + 1 = R + 2 + b from by omega, nI_1, ← b3] at e1
        rw [show R + 1 + b + 1 = R + 2 + b from by omega] at e2
        exact ⟨r2, l2 o1 e2, Or.inl ⟨m', t', j', cs', nq', nl', S', W', Q', ls', le', LO', told', lo', lE', lb', aS', aC', aL', aH', aB', aT', aG', aE', T', z2, by omega, b5, r1, e1⟩⟩
      · obtain ⟨r1, r2⟩ := b7 z (R + 1 + a)
        obtain ⟨i1, i2, i3⟩ := ih m' t' j' cs' nq' nl' S' W' Q' ls' le' LO' told' lo' lE' lb' aS' aC' aL' aH' aB' aT' aG' aE' T' (by omega) (by omega) z a b
        rw [show nl' + nq' - 1 = nl + nq from by omega] at i2 i3
        rw [b3] at i1 i3
        refine ⟨r2 i1, l2 o1 i2, ?_⟩
        have r1' : plp K V P (R + 1 + a + 1) (nl + nq) t j nq cs S W Q nl ls le LO = plp K V P (R + 1 + a) (nl + nq + 1) t' j' nq' cs' S' W' Q' nl' ls' le' LO' := r1
        rw [r1']
        exact i3
    · obtain ⟨r1, r2⟩ := b4 (R + 1 + a)
      obtain ⟨e1, e2, e3⟩ := llp_no (g := g) (sg := nI N) (f := R + 1 + b) (w := nI (nl + nq)) b2
      rw [show R + 1 + b + 1 = R + 2 + b from by omega] at e1 e2 e3
      exact ⟨r2, l2 o1 e3, Or.inr ⟨t', b1, r1, e1, e2.trans b3⟩⟩
/-- from the first statement on -/
theorem all_simG (L : LexR g K V P N n e pos) {m : MS} {t j cs nq nl F : Nat} {S W : Nat → Int32} {Q : Nat → Nat → Int32} {ls le LO told lo lE lb aS aC aL aH aB aT aG aE : Nat → Int32} (hz : nl + nq = 0) (hF : F = 23) (T : TopR g K V N n e m t j cs nq nl S W Q ls le LO told lo lE lb aS aC aL aH aB aT aG aE) :
    pok K V P (F + 1) (nl + nq) t j nq cs S W Q nl ls le LO ∧ mok g (nI N) m (nI nl) (nI nq) told lo lE lb aS aC aL aH aB aT aG aE ∧ lok g (nI N) (F + 1) (nI (nl + nq)) (mst g (nI N) m (nI nl) (nI nq) told lo lE lb aS aC aL aH aB aT aG aE) ∧ FinR g K V P N n e (plp K V P (F + 1) (nl + nq) t j nq cs S W Q nl ls le LO) (llp g (nI N) (F + 1) (nI (nl + nq)) (mst g (nI N) m (nI nl) (nI nq) told lo lE lb aS aC aL aH aB aT aG aE)) := by
  obtain ⟨o1, o2⟩ := step_sim L T
  rcases o2 with ⟨m', t', j', cs', nq', nl', S', W', Q', ls', le', LO', told', lo', lE', lb', aS', aC', aL', aH', aB', aT', aG', aE', T', b2, b3, b4, b5, b6, b7⟩ | ⟨t', b1, b2, b3, b4⟩
  · rw [b2]
    by_cases z : K t' = 0
    · obtain ⟨z1, z2⟩ := (end_k L T'.1).1 z
      obtain ⟨r1, r2⟩ := b6 z F
      obtain ⟨e1, e2⟩ := llp_end (g := g) (sg := nI N) (f := F) (w := nI (nl + nq)) (nl := nI nl') (nq := nI nq') (told := told') (lo := lo') (lE := lE') (lb := lb') (aS := aS') (aC := aC') (aL := aL') (aH := aH') (aB := aB') (aT := aT') (aG := aG') (aE := aE') z1
      rw [nI_1, ← b3] at e1
      exact ⟨r2, o1, e2, Or.inl ⟨m', t', j', cs', nq', nl', S', W', Q', ls', le', LO', told', lo', lE', lb', aS', aC', aL', aH', aB', aT', aG', aE', T', z2, by omega, b5, r1, e1⟩⟩
    · obtain ⟨r1, r2⟩ := b7 z F
      obtain ⟨i1, i2, i3⟩ := loop_sim L (F - 1) m' t' j' cs' nq' nl' S' W' Q' ls' le' LO' told' lo' lE' lb' aS' aC' aL' aH' aB' aT' aG' aE' T' (by omega) (by omega) z 0 0
      rw [show F - 1 + 1 + 0 = F from by omega] at i1 i3
      rw [show F - 1 + 2 + 0 = F + 1 from by omega] at i2 i3
      rw [show nl' + nq' - 1 = nl + nq from by omega] at i2 i3
      rw [b3] at i1 i3
      refine ⟨r2 i1, o1, i2, ?_⟩
      have r1' : plp K V P (F + 1) (nl + nq) t j nq cs S W Q nl ls le LO = plp K V P F (nl + nq + 1) t' j' nq' cs' S' W' Q' nl' ls' le' LO' := r1
      rw [r1']
      exact i3
  · obtain ⟨r1, r2⟩ := b4 F
    obtain ⟨e1, e2, e3⟩ := llp_no (g := g) (sg := nI N) (f := F) (w := nI (nl + nq)) b2
    exact ⟨r2, o1, e3, Or.inr ⟨t', b1, r1, e1, e2.trans b3⟩⟩
end TOP9
