/-! where, in -/
section TOP2
variable {g K V P : Nat → Int32} {N n : Nat} {e pos : Nat → Nat} {LO told lo : Nat → Int32} {Lc : Nat}
abbrev WT : Type := Int32 × Int32 × Int32 × Int32 × Int32 × Int32 × Int32 × Int32 × Int32 × Int32 × (Nat → Int32) × (Nat → Int32) × (Nat → Int32) × (Nat → Int32) × (Nat → Int32) × (Nat → Int32) × (Nat → Int32) × (Nat → Int32)
def whT (b : Int32) (m : MS) (tp bg en : Nat → Int32) : WT := (b, m.tk, m.at_, m.pl, m.kd, m.vl, m.dp, m.js, m.sz, m.gc, m.ks, m.vs, m.co, tp, bg, en, m.go, m.wi)
abbrev AT : Type := Int32 × Int32 × Int32 × Int32 × Int32 × (Nat → Int32) × (Nat → Int32) × (Nat → Nat → Int32)
/-- a question was read -/
def WhOK (g K V P : Nat → Int32) (N n : Nat) (e : Nat → Nat) (Lc : Nat) (m : MS) (t cs nq : Nat) (S W : Nat → Int32) (Q : Nat → Nat → Int32) (F : Int32 → Int32 → Int32 → Nat → Int32) (tp bg en : Nat → Int32) (r : AT) (rm : WT) : Prop := ∃ (t' j' cs' v : Nat) (S' W' en' : Nat → Int32) (m' : MS), r = (1, nI t', nI j', nI (nq + 1), nI cs', S', W', updQ Q nq (F (nI v) (nI cs) (nI cs'))) ∧ rm = whT 1 m' (upd tp nq (nI v)) (upd bg nq (nI (2 * cs))) en' ∧ v ≤ 30 ∧ t ≤ t' ∧ cs ≤ cs' ∧ cs' + 1 ≤ t' ∧ j' ≤ 150 ∧ (∀ i, i < cs → S' i = S i) ∧ (∀ i, i < cs → W' i = W i) ∧ At g K V N n e m' t' ∧ m'.js = nI j' ∧ m'.sz = nI (2 * cs') ∧ (∀ i, i < 2 * cs → m'.co i = m.co i) ∧ (∀ i, i ≠ nq → en' i = en i) ∧ ((cs' = cs ∧ en' nq = -1) ∨ ∃ h : Nat, en' nq = nI (2 * cs') ∧ BooD S' W' m'.co Lc cs cs' h ∧ h ≤ 46)
/-- it was not; both are at the same token -/
def WhNo (P : Nat → Int32) (n : Nat) (r : AT) (rm : WT) : Prop := ∃ (t' : Nat) (m' : MS) (tp bg en : Nat → Int32), r.1 = 0 ∧ r.2.1 = nI t' ∧ t' ≤ n ∧ rm = whT 0 m' tp bg en ∧ m'.pl = P t'
theorem in_030 {v : Nat} (hv : v < 2 ^ 31) (h : ¬ s_Mo_in (nI v) 0 30 = 0) : v ≤ 30 := by
  unfold s_Mo_in at h
  rw [if_neg (nI_pos hv)] at h
  by_cases c : (30 : Int32) < nI v
  · rw [if_pos c] at h
    exact absurd rfl h
  · have : ¬ 30 < v := fun q => c (ltL (N := 30) (a := 30) rfl q hv)
    omega
theorem asked_up {nq : Nat} (h : nq < 12) : (if (12 : Int32) < nI nq + 1 then (12 : Int32) else nI nq + 1) = nI (nq + 1) := by
  rw [nI_1, if_neg (nltL (N := 12) (a := 12) (b := nq + 1) rfl (by omega) (by decide))]
theorem where_sim (L : LexR g K V P N n e pos) (R : LetR LO told lo Lc) {m : MS} {t t0 j cs nq : Nat} {S W tp bg en : Nat → Int32} {Q : Nat → Nat → Int32} {a1 a2 a3 a4 a5 a6 a7 a8 : Int32} (hq : nq < 12) (ht0 : t0 ≤ n)
    (hh : s_Par_head K V (nI t0) (Q nq 0) (Q nq 1) (Q nq 2) (Q nq 3) (Q nq 4) (Q nq 5) (Q nq 6) (Q nq 7) = (1, nI t, a1, a2, a3, a4, a5, a6, a7, a8)) (hat : At g K V N n e m t) (hj : m.js = nI j) (hj2 : j ≤ 150) (hs : m.sz = nI (2 * cs)) (hc : cs ≤ t) :
    ok_Par_asks K V S W (nI cs) Q (nI nq) LO (nI t0) (nI j) ∧ ok_Mo_readWhere g (nI N) m.ks m.vs m.tk m.at_ m.pl m.kd m.vl m.js told lo m.co m.sz m.go m.wi (nI nq) ∧
    (WhOK g K V P N n e Lc m t cs nq S W Q (fun x y z => qF a1 a2 a3 a4 a5 x y z) tp bg en (s_Par_asks K V S W (nI cs) Q (nI nq) LO (nI t0) (nI j)) (s_Mo_readWhere g (nI N) m.ks m.vs m.tk m.at_ m.pl m.kd m.vl m.dp m.js told lo m.co m.sz tp bg en m.go m.wi m.gc (nI nq)) ∨
     WhNo P n (s_Par_asks K V S W (nI cs) Q (nI nq) LO (nI t0) (nI j)) (s_Mo_readWhere g (nI N) m.ks m.vs m.tk m.at_ m.pl m.kd m.vl m.dp m.js told lo m.co m.sz tp bg en m.go m.wi m.gc (nI nq))) := by
  have hn := L.le
  have hN := L.hN
  have ht := hat.1
  have hin : vp_in (nI nq) 12 := vp_in_nI hq (by decide)
  have hlt : nI nq < 12 := ltR (N := 12) (b := 12) rfl hq (by decide)
  have hu0 : up (nI t0) 2001 := up_of (by omega) (by decide)
  have hu : up (nI t) 2001 := up_of (by omega) (by decide)
  have hpi := hat.pi L
  unfold ok_Par_asks ok_Mo_readWhere s_Par_asks s_Mo_readWhere
  rw [if_pos hlt, if_pos hlt, sqj_nI hq, hh, nI_clamp (show nq < 2 ^ 31 by omega)]
  dsimp only
  rw [if_neg (show ¬ (1 : Int32) = 0 by decide), if_neg (show ¬ (1 : Int32) = 0 by decide)]
  rcases take_sim L hat 12 12 5 (by decide) (by decide) rfl rfl with ⟨w1, w2, w3, w4, w5, -, m1, n1, w7⟩ | ⟨w1, w2, w3⟩
  · -- with a condition
    rw [w1, if_pos w2, if_pos w2, n1.pass]
    dsimp only
    rw [if_neg (show ¬ (1 : Int32) = 0 by decide), if_neg (show ¬ (1 : Int32) = 0 by decide)]
    have hk30 : ¬ m.kd = 30 := by rw [w2]; decide
    obtain ⟨c1, c2, c3⟩ := rc_sim L R (m := m1) (t := t + 1) (j := j) (cs := cs) (S := S) (W := W) w7 (n1.js.trans hj) hj2 (n1.sz.trans hs) (by omega)
    rw [n1.js, n1.co, n1.sz, n1.go, n1.wi] at c2 c3
    rcases c3 with ⟨t', j', cs', h, S', W', m', b1, b2, b3, b4, b5, b6, b7, b8, b9, d1, d2, d3, d4, d5⟩ | ⟨t', m', b1, b2, b3, b4, b5⟩
    · have hut : up (nI t') 2001 := up_of (by have := b9.1; omega) (by decide)
      have hpi' := b9.pi L
      rw [b1, b2]
      unfold MS.tup
      dsimp only
      rw [if_neg (show ¬ (1 : Int32) = 0 by decide), if_neg (show ¬ (1 : Int32) = 0 by decide), if_neg (show ¬ (1 : Int32) = 0 by decide), if_neg (show ¬ (1 : Int32) = 0 by decide)]
      rcases take_sim L b9 13 13 6 (by decide) (by decide) rfl rfl with ⟨x1, x2, x3, x4, x5, -, m2, n2, x7⟩ | ⟨x1, x2, x3⟩
      · rw [x1, n2.one x2]
        dsimp only
        rw [if_neg (show ¬ (1 : Int32) = 0 by decide), if_neg (show ¬ (1 : Int32) = 0 by decide), if_neg (show ¬ (1 : Int32) = 0 by decide), if_neg (show ¬ (1 : Int32) = 0 by decide)]
        rcases num_sim L x7 0 30 with ⟨v, y1, y2, y3, y4, y5, y6, y7, m3, n3, y8, y9⟩ | ⟨y1, y2⟩
        · rw [if_neg y2, if_neg y2, y3, y8, y7, asked_up hq, nI_1]
          refine ⟨⟨hu0, hu, c1, hut, trivial⟩, ⟨hin, hin, hpi, hk30, c2, hin, hpi', hin, trivial⟩, Or.inl ⟨t' + 1 + 1, j', cs', v, S', W', upd (upd en nq (-1)) nq m'.sz, m3, rfl, ?_, in_030 y1 y6, by omega, b4, by omega, b6, b7, b8, y9, n3.js.trans (n2.js.trans d1), n3.sz.trans (n2.sz.trans d2), fun i hi => by rw [n3.co, n2.co, d3 i hi, n1.co], fun i hi => by rw [pk_un hi, pk_un hi], Or.inr ⟨h, ?_, by rw [n3.co, n2.co]; exact d4, d5⟩⟩⟩
          · unfold whT
            rw [hs, n3.js, n2.js, n3.sz, n2.sz, n3.co, n2.co, n3.dp, n2.dp, n3.gc, n2.gc, n3.go, n2.go, n3.wi, n2.wi]
          · rw [pk_us]
            exact d2
        · rw [if_pos y1, if_pos y1, y2]
          obtain ⟨k, -, -, -, z4, -, -⟩ := x7.view L
          exact ⟨⟨hu0, hu, c1, hut, trivial⟩, ⟨hin, hin, hpi, hk30, c2, hin, hpi', hin, trivial⟩, Or.inr ⟨t' + 1, m2, _, _, _, rfl, rfl, x7.1, by unfold whT; rw [n2.js, n2.sz, n2.co, n2.dp, n2.gc, n2.go, n2.wi], z4⟩⟩
      · rw [x1, one_n x2]
        dsimp only
        rw [if_pos rfl, if_pos rfl, if_pos rfl, if_pos rfl]
        obtain ⟨k, -, -, -, z4, -, -⟩ := b9.view L
        exact ⟨⟨hu0, hu, c1, hut, trivial⟩, ⟨hin, hin, hpi, hk30, c2, hin, hpi', trivial⟩, Or.inr ⟨t', m', _, _, _, rfl, rfl, b9.1, rfl, z4⟩⟩
    · rw [b4, if_pos b1, if_pos b1]
      unfold MS.tup
      dsimp only
      rw [if_pos rfl, if_pos rfl]
      exact ⟨⟨hu0, hu, c1, trivial⟩, ⟨hin, hin, hpi, hk30, c2, trivial⟩, Or.inr ⟨t', m', _, _, _, rfl, b2, b3, rfl, b5⟩⟩
  · -- without one
    rw [w1, if_neg w2, if_neg w2]
    dsimp only
    rw [if_pos rfl, if_pos rfl]
    rcases take_sim L hat 13 13 6 (by decide) (by decide) rfl rfl with ⟨x1, x2, x3, x4, x5, -, m2, n2, x7⟩ | ⟨x1, x2, x3⟩
    · rw [x1, n2.one x2]
      dsimp only
      rw [if_neg (show ¬ (1 : Int32) = 0 by decide), if_neg (show ¬ (1 : Int32) = 0 by decide), if_neg (show ¬ (1 : Int32) = 0 by decide), if_neg (show ¬ (1 : Int32) = 0 by decide)]
      rcases num_sim L x7 0 30 with ⟨v, y1, y2, y3, y4, y5, y6, y7, m3, n3, y8, y9⟩ | ⟨y1, y2⟩
      · rw [if_neg y2, if_neg y2, y3, y8, y7, asked_up hq, nI_1]
        refine ⟨⟨hu0, hu, trivial⟩, ⟨hin, hin, hpi, hin, trivial⟩, Or.inl ⟨t + 1 + 1, j, cs, v, S, W, upd en nq (-1), m3, rfl, ?_, in_030 y1 y6, by omega, Nat.le_refl _, by omega, hj2, fun _ _ => rfl, fun _ _ => rfl, y9, n3.js.trans (n2.js.trans hj), n3.sz.trans (n2.sz.trans hs), fun _ _ => by rw [n3.co, n2.co], fun i hi => pk_un hi, Or.inl ⟨rfl, pk_us⟩⟩⟩
        unfold whT
        rw [n3.js, n2.js, n3.sz, n2.sz, n3.co, n2.co, n3.dp, n2.dp, n3.gc, n2.gc, n3.go, n2.go, n3.wi, n2.wi, hs]
      · rw [if_pos y1, if_pos y1, y2]
        obtain ⟨k, -, -, -, z4, -, -⟩ := x7.view L
        exact ⟨⟨hu0, hu, trivial⟩, ⟨hin, hin, hpi, hin, trivial⟩, Or.inr ⟨t + 1, m2, _, _, _, rfl, rfl, x7.1, by unfold whT; rw [n2.js, n2.sz, n2.co, n2.dp, n2.gc, n2.go, n2.wi], z4⟩⟩
    · rw [x1, one_n x2]
      dsimp only
      rw [if_pos rfl, if_pos rfl, if_pos rfl, if_pos rfl]
      obtain ⟨k, -, -, -, z4, -, -⟩ := hat.view L
      exact ⟨⟨hu0, hu, trivial⟩, ⟨hin, hin, hpi, trivial⟩, Or.inr ⟨t, m, _, _, _, rfl, rfl, ht, rfl, z4⟩⟩
end TOP2
