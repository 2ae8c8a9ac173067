/-! any question -/
section TOP7
variable {g K V P : Nat → Int32} {N n : Nat} {e pos : Nat → Nat} {LO told lo : Nat → Int32} {Lc : Nat}
theorem t_ite {x : Int32} : (if x = 0 then True else True) := by
  split <;> trivial
set_option maxHeartbeats 20000000 in
set_option maxRecDepth 100000 in
theorem ques_sim (L : LexR g K V P N n e pos) (R : LetR LO told lo Lc) {m : MS} {t j cs nq k : Nat} {S W aS aC aL aH aB aT aG aE : Nat → Int32} {Q : Nat → Nat → Int32} (hat : At g K V N n e m t) (hk : k = 6 ∨ k = 7 ∨ k = 8) (hK : K t = nI k) (hkd : m.kd = nI (km k)) (hj : m.js = nI j) (hj2 : j ≤ 150) (hs : m.sz = nI (2 * cs)) (hc : cs ≤ t) (hq12 : nq ≤ 12) :
    ok_Par_asks K V S W (nI cs) Q (nI nq) LO (nI t) (nI j) ∧ ok_Mo_readQuestion g (nI N) m.ks m.vs m.tk m.at_ m.kd m.vl m.dp m.js (nI nq) told lo m.co m.sz aC aL aH aB aT aG aE m.go m.wi m.gc ∧
    (QuOK g K V P N n e Lc m t cs nq S W Q aS aC aL aH aB aT aG aE (s_Par_asks K V S W (nI cs) Q (nI nq) LO (nI t) (nI j)) (s_Mo_readQuestion g (nI N) m.ks m.vs m.tk m.at_ m.pl m.kd m.vl m.dp m.js (nI nq) told lo m.co m.sz aS aC aL aH aB aT aG aE m.go m.wi m.gc) ∨
     QuNo P n (s_Par_asks K V S W (nI cs) Q (nI nq) LO (nI t) (nI j)) (s_Mo_readQuestion g (nI N) m.ks m.vs m.tk m.at_ m.pl m.kd m.vl m.dp m.js (nI nq) told lo m.co m.sz aS aC aL aH aB aT aG aE m.go m.wi m.gc)) := by
  have hn := L.le
  have hN := L.hN
  have ht := hat.1
  have hpi := hat.pi L
  obtain ⟨k', v1, v2, v3, v4, v5, v6⟩ := hat.view L
  have ek : k' = k := (nI_eq (by omega) (by omega)).mp (v2.symm.trans hK)
  subst ek
  have hk2 : 2 ≤ k' := by omega
  have htn := (v5 hk2).1
  obtain ⟨m1, n1, hat1⟩ := hat.nx L hK hk2 v1
  by_cases c : nq = 12
  · subst c
    have c1 : ¬ nI 12 < 12 := by decide
    have c2 : nI 12 = 12 := rfl
    unfold ok_Par_asks s_Par_asks ok_Mo_readQuestion s_Mo_readQuestion
    rw [if_neg c1, if_neg c1, if_pos c2, if_pos c2]
    exact ⟨trivial, trivial, Or.inr ⟨t, rfl, rfl, ht, rfl, v4⟩⟩
  have hq : nq < 12 := by omega
  have c2 : ¬ nI nq = 12 := neR (N := 12) (j := 12) rfl (by omega) (by decide) c
  have hin : vp_in (nI nq) 12 := vp_in_nI hq (by decide)
  have hk30 : ¬ m.kd = 30 := by
    rw [hkd]
    rcases hk with rfl | rfl | rfl <;> decide
  unfold ok_Mo_readQuestion s_Mo_readQuestion
  rw [if_neg c2, if_neg c2, n1.pass, nI_clamp (show nq < 2 ^ 31 by omega)]
  dsimp only
  have off : ∀ (f : Nat → Int32) (x : Int32) (i : Nat), i ≠ nq → upd f nq x i = f i := fun f x i hi => pk_un hi
  rcases hk with rfl | rfl | rfl
  · -- count
    have k2 : m.kd = 2 := hkd
    have hh : ∀ q0 q1 q2 q3 q4 q5 q6 q7 : Int32, s_Par_head K V (nI t) q0 q1 q2 q3 q4 q5 q6 q7 = (1, nI (t + 1), 0, 0, 0, 0, 1, 0, 0, 0) := fun q0 q1 q2 q3 q4 q5 q6 q7 => by
      have e6 : s_Par_take K (nI t) 6 = (1, nI (t + 1)) := (par_take (show t ≤ 2000 by omega) hK (by decide) (show 6 < 31 by decide)).trans (if_pos rfl)
      unfold s_Par_head
      rw [e6]
      dsimp only
      rw [if10]
    obtain ⟨w1, w2, w3⟩ := where_sim (S := S) (W := W) (tp := aT) (bg := aG) (en := aE) (Q := Q) (j := j) (cs := cs) (m := m1) L R hq ht (hh _ _ _ _ _ _ _ _) hat1 (n1.js.trans hj) hj2 (n1.sz.trans hs) (by omega)
    simp only [n1.js, n1.sz, n1.co, n1.dp, n1.gc, n1.go, n1.wi] at w2 w3
    have w3' : QsR g K V P N n e Lc m1 (t + 1) cs nq S W Q (fun x y z => qF 0 0 0 0 1 x y z) aT aG aE (s_Par_asks K V S W (nI cs) Q (nI nq) LO (nI t) (nI j)) (s_Mo_readWhere g (nI N) m1.ks m1.vs m1.tk m1.at_ m1.pl m1.kd m1.vl m.dp m.js told lo m.co m.sz aT aG aE m.go m.wi m.gc (nI nq)) := w3
    have w2' : ok_Mo_readWhere g (nI N) m1.ks m1.vs m1.tk m1.at_ m1.pl m1.kd m1.vl m.js told lo m.co m.sz m.go m.wi (nI nq) := w2
    rw [if_pos k2, if_pos k2]
    refine ⟨w1, ⟨hin, hin, hin, hin, hin, hpi, hk30, w2', t_ite⟩, ?_⟩
    generalize s_Mo_readWhere g (nI N) m1.ks m1.vs m1.tk m1.at_ m1.pl m1.kd m1.vl m.dp m.js told lo m.co m.sz aT aG aE m.go m.wi m.gc (nI nq) = w at w3' ⊢
    refine qu_of (m := m1) (t := t + 1) (aS' := upd aS nq (m.kd - 2)) (aC' := upd aC nq 0) (aL' := upd aL nq 0) (aH' := upd aH nq 0) (aB' := upd aB nq 1) n1.co (Nat.le_refl _) w3' (fun h => ?_) (fun m' x y z h => ?_) (fun i hi => ⟨off _ _ i hi, off _ _ i hi, off _ _ i hi, off _ _ i hi, off _ _ i hi⟩) (by rw [pk_us, k2]; rfl) pk_us pk_us pk_us pk_us ⟨0, by decide, rfl⟩ ⟨1, by decide, by decide, rfl⟩ (Or.inl rfl)
    · rw [if_pos h]
      exact ⟨h, rfl⟩
    · subst h
      rw [if_neg (show ¬ (whT 1 m' x y z).1 = 0 from by intro q; exact absurd (show (1 : Int32) = 0 from q) (by decide)), nI_1]
      rfl
  · -- sum
    have k3 : m.kd = 3 := hkd
    have k2 : ¬ m.kd = 2 := by rw [k3]; decide
    obtain ⟨w1, w2, w3⟩ := sum_top (S := S) (W := W) (co := upd aC nq 0) (hi := upd aH nq 0) (byA := upd aB nq 1) (tp := aT) (bg := aG) (en := aE) (Q := Q) (j := j) (cs := cs) (m := m1) L R hq hK hat1 (n1.js.trans hj) hj2 (n1.sz.trans hs) hc
    simp only [n1.js, n1.sz, n1.co, n1.dp, n1.gc, n1.go, n1.wi] at w2 w3
    have w2' : ok_Mo_readSum g (nI N) m1.ks m1.vs m1.tk m1.at_ m1.pl m1.kd m1.vl m.dp m.js told lo m.co m.sz (upd aC nq 0) aT aG aE m.go m.wi m.gc (nI nq) := w2
    rw [if_neg k2, if_neg k2, if_pos k3, if_pos k3]
    refine ⟨w1, ⟨hin, hin, hin, hin, hin, hpi, hk30, w2', t_ite⟩, ?_⟩
    rcases w3 with ⟨c', h', b', t', by', m', w, a1, a2, a3, a4, a5, a6, a7, a8, a9, b1⟩ | ⟨t', a1, a2, a3, a4, a5⟩
    · have a9' : s_Mo_readSum g (nI N) m1.ks m1.vs m1.tk m1.at_ m1.pl m1.kd m1.vl m.dp m.js told lo m.co m.sz (upd aC nq 0) (upd aH nq 0) (upd aB nq 1) aT aG aE m.go m.wi m.gc (nI nq) = suT w (upd (upd aC nq 0) nq (nI c')) (upd (upd aH nq 0) nq (nI h')) by' := a9
      rw [a9']
      have hby : by' nq = nI b' ∧ ∀ i, i ≠ nq → by' i = aB i := by
        rcases a8 with ⟨rfl, rfl⟩ | rfl
        · exact ⟨pk_us, fun i hi => pk_un hi⟩
        · exact ⟨pk_us, fun i hi => by rw [pk_un hi, pk_un hi]⟩
      refine qu_of (m := m') (t := t') (aS' := upd aS nq (m.kd - 2)) (aC' := upd (upd aC nq 0) nq (nI c')) (aL' := upd aL nq 0) (aH' := upd (upd aH nq 0) nq (nI h')) (aB' := by') a7 (by omega) b1 (fun h => ?_) (fun m2 x y z h => ?_) (fun i hi => ⟨off _ _ i hi, by rw [pk_un hi, pk_un hi], off _ _ i hi, by rw [pk_un hi, pk_un hi], hby.2 i hi⟩) (by rw [pk_us, k3]; rfl) pk_us pk_us pk_us hby.1 ⟨c', a1, rfl⟩ ⟨b', a4, a5, rfl⟩ (Or.inr (Or.inl ⟨rfl, rfl, h', a2, a3, rfl⟩))
      · rw [if_pos (show (suT w (upd (upd aC nq 0) nq (nI c')) (upd (upd aH nq 0) nq (nI h')) by').1 = 0 from h)]
        exact ⟨h, rfl⟩
      · subst h
        rw [if_neg (show ¬ (suT (whT 1 m2 x y z) (upd (upd aC nq 0) nq (nI c')) (upd (upd aH nq 0) nq (nI h')) by').1 = 0 from by intro q; exact absurd (show (1 : Int32) = 0 from q) (by decide)), nI_1]
        rfl
    · have a4' : (s_Mo_readSum g (nI N) m1.ks m1.vs m1.tk m1.at_ m1.pl m1.kd m1.vl m.dp m.js told lo m.co m.sz (upd aC nq 0) (upd aH nq 0) (upd aB nq 1) aT aG aE m.go m.wi m.gc (nI nq)).1 = 0 := a4
      rw [if_pos a4']
      exact Or.inr ⟨t', a1, a2, a3, a4, a5⟩
  · -- bins
    have k4 : m.kd = 4 := hkd
    have k2 : ¬ m.kd = 2 := by rw [k4]; decide
    have k3 : ¬ m.kd = 3 := by rw [k4]; decide
    obtain ⟨w1, w2, w3⟩ := bins_top (S := S) (W := W) (co := upd aC nq 0) (lw := upd aL nq 0) (hi := upd aH nq 0) (tp := aT) (bg := aG) (en := aE) (Q := Q) (j := j) (cs := cs) (m := m1) L R hq hK hat1 (n1.js.trans hj) hj2 (n1.sz.trans hs) hc
    simp only [n1.js, n1.sz, n1.co, n1.dp, n1.gc, n1.go, n1.wi] at w2 w3
    have w2' : ok_Mo_readBins g (nI N) m1.ks m1.vs m1.tk m1.at_ m1.pl m1.kd m1.vl m.dp m.js told lo m.co m.sz (upd aC nq 0) (upd aL nq 0) (upd aH nq 0) aT aG aE m.go m.wi m.gc (nI nq) := w2
    rw [if_neg k2, if_neg k2, if_neg k3, if_neg k3]
    refine ⟨w1, ⟨hin, hin, hin, hin, hin, hpi, hk30, w2', t_ite⟩, ?_⟩
    rcases w3 with ⟨c', t', sp, X, Y, m', w, a1, a2, a3, a4, a5, a6, a7⟩ | ⟨t', a1, a2, a3, a4, a5⟩
    · have a6' : s_Mo_readBins g (nI N) m1.ks m1.vs m1.tk m1.at_ m1.pl m1.kd m1.vl m.dp m.js told lo m.co m.sz (upd aC nq 0) (upd aL nq 0) (upd aH nq 0) aT aG aE m.go m.wi m.gc (nI nq) = suT w (upd (upd aC nq 0) nq (nI c')) (upd (upd aL nq 0) nq X) (upd (upd aH nq 0) nq Y) := a6
      rw [a6']
      refine qu_of (m := m') (t := t') (aS' := upd aS nq (m.kd - 2)) (aC' := upd (upd aC nq 0) nq (nI c')) (aL' := upd (upd aL nq 0) nq X) (aH' := upd (upd aH nq 0) nq Y) (aB' := upd aB nq 1) a5 (by omega) a7 (fun h => ?_) (fun m2 x y z h => ?_) (fun i hi => ⟨off _ _ i hi, by rw [pk_un hi, pk_un hi], by rw [pk_un hi, pk_un hi], by rw [pk_un hi, pk_un hi], off _ _ i hi⟩) (by rw [pk_us, k4]; rfl) pk_us pk_us pk_us pk_us ⟨c', a1, rfl⟩ ⟨1, by decide, by decide, rfl⟩ (Or.inr (Or.inr ⟨rfl, sp, a2, a3⟩))
      · rw [if_pos (show (suT w (upd (upd aC nq 0) nq (nI c')) (upd (upd aL nq 0) nq X) (upd (upd aH nq 0) nq Y)).1 = 0 from h)]
        exact ⟨h, rfl⟩
      · subst h
        rw [if_neg (show ¬ (suT (whT 1 m2 x y z) (upd (upd aC nq 0) nq (nI c')) (upd (upd aL nq 0) nq X) (upd (upd aH nq 0) nq Y)).1 = 0 from by intro q; exact absurd (show (1 : Int32) = 0 from q) (by decide)), nI_1]
        rfl
    · have a4' : (s_Mo_readBins g (nI N) m1.ks m1.vs m1.tk m1.at_ m1.pl m1.kd m1.vl m.dp m.js told lo m.co m.sz (upd aC nq 0) (upd aL nq 0) (upd aH nq 0) aT aG aE m.go m.wi m.gc (nI nq)).1 = 0 := a4
      rw [if_pos a4']
      exact Or.inr ⟨t', a1, a2, a3, a4, a5⟩
end TOP7
