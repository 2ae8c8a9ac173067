/-! let -/
section TOP3
variable {g K V P : Nat → Int32} {N n : Nat} {e pos : Nat → Nat} {LO told lo : Nat → Int32}
abbrev LT : Type := Int32 × Int32 × Int32 × Int32 × Int32 × Int32 × Int32 × Int32 × Int32 × Int32 × Int32 × (Nat → Int32) × (Nat → Int32) × (Nat → Int32) × (Nat → Int32) × (Nat → Int32) × (Nat → Int32) × (Nat → Int32) × (Nat → Int32) × (Nat → Int32)
def leT (b : Int32) (m : MS) (nl : Int32) (told lo lE lb : Nat → Int32) : LT := (b, m.tk, m.at_, m.pl, m.kd, m.vl, m.dp, m.js, nl, m.sz, m.gc, m.ks, m.vs, told, lo, m.co, lE, lb, m.go, m.wi)
abbrev ET : Type := Int32 × Int32 × Int32 × Int32 × Int32 × (Nat → Int32) × (Nat → Int32) × (Nat → Int32) × (Nat → Int32) × (Nat → Int32)
def LeOK (g K V P : Nat → Int32) (N n : Nat) (e : Nat → Nat) (LO told lo : Nat → Int32) (m : MS) (t cs nl : Nat) (S W ls le lE lb : Nat → Int32) (r : ET) (rm : LT) : Prop := ∃ (t' j' cs' v h : Nat) (S' W' : Nat → Int32) (m' : MS), r = (1, nI t', nI j', nI (nl + 1), nI cs', S', W', upd ls nl (nI cs), upd le nl (nI cs'), upd LO v (nI nl)) ∧ rm = leT 1 m' (nI (nl + 1)) (upd told v 1) (upd lo v (nI nl)) (upd lE nl (nI (2 * cs'))) (upd lb nl (nI (2 * cs))) ∧ nl < 10 ∧ v < 26 ∧ t ≤ t' ∧ cs ≤ cs' ∧ cs' + 1 ≤ t' ∧ j' ≤ 150 ∧ (∀ i, i < cs → S' i = S i) ∧ (∀ i, i < cs → W' i = W i) ∧ At g K V N n e m' t' ∧ m'.js = nI j' ∧ m'.sz = nI (2 * cs') ∧ (∀ i, i < 2 * cs → m'.co i = m.co i) ∧ BooD S' W' m'.co nl cs cs' h ∧ h ≤ 46
def LeNo (P : Nat → Int32) (n : Nat) (r : ET) (rm : LT) : Prop := ∃ (t' : Nat) (m' : MS) (nl : Int32) (told lo lE lb : Nat → Int32), r.1 = 0 ∧ r.2.1 = nI t' ∧ t' ≤ n ∧ rm = leT 0 m' nl told lo lE lb ∧ m'.pl = P t'
theorem letOf_eq {v : Nat} (hv : v < 26) : s_Scr_letOf LO (nI v) = LO v := by
  unfold s_Scr_letOf
  rw [if_neg (nI_pos (by omega)), if_neg (geL (N := 26) (b := 26) rfl hv (by decide)), nI_clamp (by omega)]
theorem addLet_eq {ls le : Nat → Int32} {cs' nl v : Nat} {z : Int32} (hl : nl < 10) (hv : v < 26) : s_Scr_addLet (nI cs') ls le LO (nI nl) (nI v) z = (nI (nl + 1), upd ls nl z, upd le nl (nI cs'), upd LO v (nI nl)) ∧ ok_Scr_addLet (nI nl) (nI v) := by
  unfold s_Scr_addLet ok_Scr_addLet
  have h1 : ¬ (10 : Int32) ≤ nI nl := geL (N := 10) (b := 10) rfl hl (by decide)
  have h2 : ¬ nI v < 0 := nI_pos (by omega)
  have h3 : nI v < 26 := ltR (N := 26) (b := 26) rfl hv (by decide)
  rw [if_neg h1, if_neg h1, if_neg h2, if_neg h2, if_pos h3, if_pos h3, nI_1, nI_clamp (show nl < 2 ^ 31 by omega), nI_clamp (show v < 2 ^ 31 by omega)]
  exact ⟨rfl, vp_in_nI hl (by decide), vp_in_nI hl (by decide), trivial⟩
theorem nI_nm1 {l : Nat} (h : l < 2 ^ 31) : ¬ nI l = -1 := fun q => by
  have := congrArg Int32.toInt q
  rw [nI_toInt h, show (-1 : Int32).toInt = -1 by decide] at this
  omega
set_option maxHeartbeats 20000000 in
set_option maxRecDepth 100000 in
theorem let_simG {con : RcF} {okc : RcO} {rd : RdF} {okrd : RdO} (L : LexR g K V P N n e pos) {nl : Nat} (R : LetR LO told lo nl) (RR : RcH g K V P N n e LO told lo nl con okc rd okrd) {m : MS} {t j cs : Nat} {S W ls le lE lb : Nat → Int32} (hat : At g K V N n e m t) (hK : K t = nI 5) (hk1 : m.kd = 1) (hj : m.js = nI j) (hj2 : j ≤ 150) (hs : m.sz = nI (2 * cs)) (hc : cs ≤ t) :
    okletG con okc K V S W (nI cs) ls le LO (nI nl) (nI t) (nI j) ∧ okreadLetG rd okrd g (nI N) m.ks m.vs m.tk m.at_ m.kd m.vl m.js (nI nl) told lo m.co m.sz m.go m.wi ∧
    (LeOK g K V P N n e LO told lo m t cs nl S W ls le lE lb (letG con K V S W (nI cs) ls le LO (nI nl) (nI t) (nI j)) (readLetG rd g (nI N) m.ks m.vs m.tk m.at_ m.pl m.kd m.vl m.dp m.js (nI nl) told lo m.co m.sz lE lb m.go m.wi m.gc) ∨
     LeNo P n (letG con K V S W (nI cs) ls le LO (nI nl) (nI t) (nI j)) (readLetG rd g (nI N) m.ks m.vs m.tk m.at_ m.pl m.kd m.vl m.dp m.js (nI nl) told lo m.co m.sz lE lb m.go m.wi m.gc)) := by
  have hn := L.le
  have hN := L.hN
  have ht := hat.1
  have hl10 := R.1
  have hpi := hat.pi L
  have hk30 : ¬ m.kd = 30 := by rw [hk1]; decide
  obtain ⟨k, k1, k2, k3, k4, k5, k6⟩ := hat.view L
  have ek : k = 5 := (nI_eq (by omega) (by omega)).mp (k2.symm.trans hK)
  subst ek
  have htn := (k5 (by decide)).1
  obtain ⟨m1, n1, hat1⟩ := hat.nx L hK (by decide) (by decide)
  unfold okletG okreadLetG letG readLetG
  by_cases c : nl = 10
  · subst c
    have c1 : ¬ nI 10 < 10 := by decide
    have c2 : nI 10 = 10 := rfl
    rw [if_neg c1, if_neg c1, if_pos c2, if_pos c2]
    exact ⟨trivial, trivial, Or.inr ⟨t, m, _, _, _, _, _, rfl, rfl, ht, rfl, k4⟩⟩
  have hl : nl < 10 := by omega
  have c1 : nI nl < 10 := ltR (N := 10) (b := 10) rfl hl (by decide)
  have c2 : ¬ nI nl = 10 := neR (N := 10) (j := 10) rfl (by omega) (by decide) c
  have hinl : vp_in (nI nl) 10 := vp_in_nI hl (by decide)
  have hu1 : up (nI (t + 1)) 2001 := up_of (by omega) (by decide)
  rw [if_pos c1, if_pos c1, if_neg c2, if_neg c2, n1.pass, nI_1, par_value (by omega), par_kind (by omega)]
  dsimp only
  rcases take_sim L hat1 4 4 14 (by decide) (by decide) rfl rfl with ⟨w1, w2, w3, w4, w5, ⟨v, w6, w8⟩, m2, n2, w7⟩ | ⟨w1, w2, w3⟩
  · have hv : v < 26 := (w6.2.2.2.2.1 rfl).2
    have hinv : vp_in (nI v) 26 := vp_in_nI hv (by decide)
    rw [if_pos (show K (t + 1) = 4 from w3), if_pos (show K (t + 1) = 4 from w3), if_pos w2, if_pos w2, w5, w8, letOf_eq hv, nI_clamp (show v < 2 ^ 31 by omega)]
    rcases R.2 v hv with ⟨r1, r2⟩ | ⟨r1, l, r2, r3, r4⟩
    · rw [if_pos r1, if_pos r1, if_pos r2, if_pos r2, nI_1]
      have hk30' : ¬ m1.kd = 30 := by rw [w2]; decide
      have hu2 : up (nI (t + 1 + 1)) 2001 := up_of (by omega) (by decide)
      have e2 := n2.pass
      rw [w5, w8] at e2
      rw [e2]
      dsimp only
      rcases take_sim L w7 22 22 17 (by decide) (by decide) rfl rfl with ⟨x1, x2, x3, x4, x5, -, m3, n3, x7⟩ | ⟨x1, x2, x3⟩
      · rw [x1, n3.one x2]
        dsimp only
        obtain ⟨q1, q2, q3⟩ := RR m3 (t + 1 + 1 + 1) j cs S W x7 (n3.js.trans (n2.js.trans (n1.js.trans hj))) hj2 (n3.sz.trans (n2.sz.trans (n1.sz.trans hs))) (by omega)
        rw [n3.js, n2.js, n1.js, n3.co, n2.co, n1.co, n3.sz, n2.sz, n1.sz, n3.go, n2.go, n1.go, n3.wi, n2.wi, n1.wi] at q2 q3
        rw [if10, if10, if10, if10]
        rcases q3 with ⟨t', j', cs', h, S', W', m', b1, b2, b3, b4, b5, b6, b7, b8, b9, d1, d2, d3, d4, d5⟩ | ⟨t', m', b1, b2, b3, b4, b5⟩
        · rw [b1, b2]
          unfold MS.tup
          dsimp only
          rw [if10, if10, if10, if10, (addLet_eq hl hv).1, nI_clamp (show nl < 2 ^ 31 by omega), nI_1]
          refine ⟨⟨hu1, hu1, hu2, q1, (addLet_eq (LO := LO) (ls := ls) (le := le) (cs' := cs') (z := nI cs) hl hv).2, trivial⟩, ⟨hpi, hk30, hinv, hk30', hinl, q2, hinl, hinv, hinv, trivial⟩, Or.inl ⟨t', j', cs', v, h, S', W', m', rfl, ?_, hl, hv, by omega, b4, b5, b6, b7, b8, b9, d1, d2, fun i hi => by rw [d3 i hi, n3.co, n2.co, n1.co], d4, d5⟩⟩
          unfold leT
          rw [d2, hs]
          rfl
        · rw [b4, if_pos b1, if_pos b1]
          unfold MS.tup
          dsimp only
          rw [if_pos rfl, if_pos rfl]
          exact ⟨⟨hu1, hu1, hu2, q1, trivial⟩, ⟨hpi, hk30, hinv, hk30', hinl, q2, trivial⟩, Or.inr ⟨t', m', _, _, _, _, _, rfl, b2, b3, rfl, b5⟩⟩
      · rw [x1, one_n x2]
        dsimp only
        rw [if_pos rfl, if_pos rfl, if_pos rfl, if_pos rfl]
        obtain ⟨k, -, -, -, z4, -, -⟩ := w7.view L
        exact ⟨⟨hu1, hu1, hu2, trivial⟩, ⟨hpi, hk30, hinv, hk30', trivial⟩, Or.inr ⟨t + 1 + 1, m2, nI nl, told, lo, lE, lb, rfl, rfl, w7.1, by unfold leT; rw [n2.js, n1.js, n2.co, n1.co, n2.sz, n1.sz, n2.dp, n1.dp, n2.gc, n1.gc, n2.go, n1.go, n2.wi, n1.wi], z4⟩⟩
    · have r5 : ¬ LO v = -1 := by rw [r3]; exact nI_nm1 (by omega)
      rw [if_neg r5, if_neg r5, if_neg r1, if_neg r1]
      obtain ⟨k, -, -, -, z4, -, -⟩ := hat1.view L
      refine ⟨⟨hu1, hu1, trivial⟩, ⟨hpi, hk30, hinv, trivial⟩, Or.inr ⟨t + 1, m1, nI nl, told, lo, lE, lb, rfl, rfl, hat1.1, ?_, z4⟩⟩
      unfold leT
      rw [w5, w8, n1.js, n1.co, n1.sz, n1.dp, n1.gc, n1.go, n1.wi]
  · have w4 : ¬ K (t + 1) = 4 := w3
    have w5 : ¬ m1.kd = 14 := w2
    rw [if_neg w4, if_neg w4, if_neg w5, if_neg w5]
    obtain ⟨k, -, -, -, z4, -, -⟩ := hat1.view L
    exact ⟨⟨hu1, hu1, trivial⟩, ⟨hpi, hk30, trivial⟩, Or.inr ⟨t + 1, m1, nI nl, told, lo, lE, lb, rfl, rfl, hat1.1, by unfold leT; rw [n1.js, n1.co, n1.sz, n1.dp, n1.gc, n1.go, n1.wi], z4⟩⟩
theorem let_sim (L : LexR g K V P N n e pos) {nl : Nat} (R : LetR LO told lo nl) {m : MS} {t j cs : Nat} {S W ls le lE lb : Nat → Int32} (hat : At g K V N n e m t) (hK : K t = nI 5) (hk1 : m.kd = 1) (hj : m.js = nI j) (hj2 : j ≤ 150) (hs : m.sz = nI (2 * cs)) (hc : cs ≤ t) :
    ok_Par_let K V S W (nI cs) ls le LO (nI nl) (nI t) (nI j) ∧ ok_Mo_readLet g (nI N) m.ks m.vs m.tk m.at_ m.kd m.vl m.js (nI nl) told lo m.co m.sz m.go m.wi ∧
    (LeOK g K V P N n e LO told lo m t cs nl S W ls le lE lb (s_Par_let K V S W (nI cs) ls le LO (nI nl) (nI t) (nI j)) (s_Mo_readLet g (nI N) m.ks m.vs m.tk m.at_ m.pl m.kd m.vl m.dp m.js (nI nl) told lo m.co m.sz lE lb m.go m.wi m.gc) ∨
     LeNo P n (s_Par_let K V S W (nI cs) ls le LO (nI nl) (nI t) (nI j)) (s_Mo_readLet g (nI N) m.ks m.vs m.tk m.at_ m.pl m.kd m.vl m.dp m.js (nI nl) told lo m.co m.sz lE lb m.go m.wi m.gc)) :=
  let_simG L R (rc_h L R) hat hK hk1 hj hj2 hs hc
end TOP3
