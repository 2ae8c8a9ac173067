/-! truths -/
def LetR (LO told lo : Nat → Int32) (Lc : Nat) : Prop := Lc ≤ 10 ∧ ∀ v, v < 26 → (LO v = -1 ∧ told v = 0) ∨ (¬ told v = 0 ∧ ∃ l, l < Lc ∧ LO v = nI l ∧ lo v = nI l)
section TRU
variable {g K V P : Nat → Int32} {N n : Nat} {e pos : Nat → Nat} {LO told lo : Nat → Int32} {d Lc : Nat}
theorem km_cmp : ∀ k, k < 31 → ((17 ≤ km k ∧ km k ≤ 22) ↔ (17 ≤ k ∧ k ≤ 22)) := by decide
theorem in_cmp {k : Nat} (hk : k < 31) : (s_Mo_in (nI (km k)) 17 22 = 0) ↔ ¬ (17 ≤ k ∧ k ≤ 22) := by
  have h1 := km_lt k hk
  have h2 := km_cmp k hk
  unfold s_Mo_in
  by_cases a : nI (km k) < 17
  · rw [if_pos a]
    have := (nI_ltI (b := 17) (by omega) (by decide)).mp a
    exact ⟨fun _ => by omega, fun _ => rfl⟩
  · rw [if_neg a]
    have a' : ¬ km k < 17 := fun q => a (ltR (N := 17) (b := 17) rfl q (by decide))
    by_cases b : (22 : Int32) < nI (km k)
    · rw [if_pos b]
      have := (nI_ltI (a := 22) (by decide) (by omega)).mp b
      exact ⟨fun _ => by omega, fun _ => rfl⟩
    · rw [if_neg b]
      have b' : ¬ 22 < km k := fun q => b (ltL (N := 22) (a := 22) rfl q (by omega))
      exact ⟨fun q => absurd q (by decide), fun q => absurd (h2.mp ⟨by omega, by omega⟩) q⟩
theorem start_k {k : Nat} (hk : k < 31) : (s_Mo_isSumStart (nI (km k)) = 0) ↔ (k ≠ 2 ∧ k ≠ 3 ∧ k ≠ 24 ∧ k ≠ 27) := by
  have h1 := km_lt k hk
  unfold s_Mo_isSumStart
  by_cases c2 : k = 2
  · subst c2
    exact ⟨fun q => absurd q (by decide), fun q => absurd rfl q.1⟩
  by_cases c3 : k = 3
  · subst c3
    exact ⟨fun q => absurd q (by decide), fun q => absurd rfl q.2.1⟩
  by_cases c24 : k = 24
  · subst c24
    exact ⟨fun q => absurd q (by decide), fun q => absurd rfl q.2.2.1⟩
  by_cases c27 : k = 27
  · subst c27
    exact ⟨fun q => absurd q (by decide), fun q => absurd rfl q.2.2.2⟩
  have n1 : ¬ nI (km k) = 15 := fun q => c2 ((km_eq (b := 2) hk (by decide)).mp q)
  have n2 : ¬ nI (km k) = 13 := fun q => c3 ((km_eq (b := 3) hk (by decide)).mp q)
  have n3 : ¬ nI (km k) = 24 := fun q => c24 ((km_eq (b := 24) hk (by decide)).mp q)
  have n4 : ¬ nI (km k) = 26 := fun q => c27 ((km_eq (b := 27) hk (by decide)).mp q)
  rw [if_neg n1, if_neg n2, if_neg n3, if_neg n4]
  exact ⟨fun _ => ⟨c2, c3, c24, c27⟩, fun _ => rfl⟩
/-- where no sum begins -/
def BadH (K V LO : Nat → Int32) (n : Nat) (sm : RcF) (oks : RcO) (d : Nat) : Prop := ∀ (t j cs k : Nat) (S W : Nat → Int32), t ≤ n → K t = nI k → k < 31 → k ≠ 2 → k ≠ 3 → k ≠ 24 → k ≠ 27 → oks K V S W (nI cs) LO (nI t) (nI j) (nI d) ∧ sm K V S W (nI cs) LO (nI t) (nI j) (nI d) = (0, nI t, nI j, nI cs, S, W)
theorem sum_bad (hn : n ≤ 2000) {k : Nat} : BadH K V LO n (K_sum (k + 1)) (okK_sum (k + 1)) d := by
  intro t j cs kk S W ht hK hk h2 h3 h24 h27
  have q1 : ¬ nI kk = 2 := neR (N := 2) (j := 2) rfl (by omega) (by decide) h2
  have q2 : ¬ nI kk = 3 := neR (N := 3) (j := 3) rfl (by omega) (by decide) h3
  have q3 : ¬ nI kk = 24 := neR (N := 24) (j := 24) rfl (by omega) (by decide) h24
  have q4 : ¬ nI kk = 27 := neR (N := 27) (j := 27) rfl (by omega) (by decide) h27
  have e1 : K_fac (k + 1) K V S W (nI cs) LO (nI t) (nI j) (nI d) = (0, nI t, nI j, nI cs, S, W) := by
    show s_Par_factor (K_fac k) (B_sum (K_fac k)) K V S W (nI cs) LO (nI t) (nI j) (nI d) = _
    unfold s_Par_factor
    dsimp only
    rw [par_kind (by omega), hK, if_neg q1, if_neg q2, if_neg q3, if_neg q4]
  have e2 : okK_fac (k + 1) K V S W (nI cs) LO (nI t) (nI j) (nI d) := by
    show ok_Par_factor (K_fac k) (okK_fac k) (B_sum (K_fac k)) (okB_sum (K_fac k) (okK_fac k)) K V S W (nI cs) LO (nI t) (nI j) (nI d)
    unfold ok_Par_factor
    dsimp only
    rw [par_kind (by omega), hK, if_neg q1, if_neg q2, if_neg q3, if_neg q4]
    exact ⟨up_of (by omega) (by decide), trivial⟩
  constructor
  · show ok_Par_sum (K_fac (k + 1)) (okK_fac (k + 1)) K V S W (nI cs) LO (nI t) (nI j) (nI d)
    unfold ok_Par_sum
    dsimp only
    rw [e1]
    exact ⟨e2, by rw [if_pos rfl]; trivial⟩
  · show s_Par_sum (K_fac (k + 1)) K V S W (nI cs) LO (nI t) (nI j) (nI d) = _
    unfold s_Par_sum
    dsimp only
    rw [e1]
    dsimp only
    rw [if_pos rfl]
theorem tru_sim (L : LexR g K V P N n e pos) (R : LetR LO told lo Lc) {tru con sm : RcF} {okt okc oks : RcO} (hd : d ≤ 20) (hT : d < 20 → SimH g K V P N n e LO told lo 5 12 7 (DTru Lc) tru okt (d + 1)) (hC : d < 20 → SimH g K V P N n e LO told lo 1 20 12 (DCon Lc) con okc (d + 1)) (hS : SimH g K V P N n e LO told lo 6 9 5 DSum sm oks d) (hB : BadH K V LO n sm oks d) : SimH g K V P N n e LO told lo 5 12 7 (DTru Lc) (B_tru tru con sm) (okB_tru tru okt con okc sm oks) d := by
  intro m t j cs q c S W hp hdp hcb
  have hN := L.hN
  have hl := L.le
  have hfit := hp.fit L (show c ≤ 996 by omega)
  obtain ⟨hat, hjs, hj, hsz, hcq, hq, hgc, hgo⟩ := hp
  have ht := hat.1
  obtain ⟨k, hk, hK, hkd, hpl, htok, hlt⟩ := L.kind ht
  rw [hat.2.2.1] at hkd hpl htok
  have hkd : m.kd = nI (km k) := hkd
  have hpl : m.pl = P t := hpl
  have hup : up (nI t) 2001 := up_of (by omega) (by decide)
  have hup2 : up (nI cs) 2000 := up_of (by omega) (by decide)
  show ok_Par_truth tru okt con okc sm oks K V S W (nI cs) LO (nI t) (nI j) (nI d) ∧ Out g K V P N n e told lo c m t cs q 12 S W (DTru Lc d) (s_Par_truth tru con sm K V S W (nI cs) LO (nI t) (nI j) (nI d))
  unfold ok_Par_truth s_Par_truth
  dsimp only
  rw [par_kind (show t ≤ 2000 by omega), par_value (show t ≤ 2000 by omega), hK]
  by_cases k16 : k = 16
  · subst k16
    rw [if_pos (show nI 16 = 16 from rfl), if_pos (show nI 16 = 16 from rfl)]
    by_cases d20 : d = 20
    · subst d20
      rw [deeper_n]
      dsimp only
      rw [if_pos rfl, if_pos rfl]
      exact ⟨⟨hup, trivial⟩, Or.inr ⟨t, 1, rfl, rfl, Nat.le_refl _, ht, Fail.one hfit hgc (by rw [hgo]; exact re_5_10n (by omega) (by rw [hkd]; rfl) hdp) (by simp only [f_push3_pl, f_push2_pl, f_push2w_pl, f_gcTo_pl, f_dpTo_pl, f_lay_pl, f_jsTo_pl]; exact hpl), by omega⟩⟩
    · have hdl : d < 20 := by omega
      have hn := hat.next L hK (by decide) (by decide)
      have hrun : Run g (nI N) told lo 1 m (((m.next g (nI N)).dpTo (nI (d + 1))).push3 c 15 12 10 5) := Run.one hfit hgc (by rw [hgo]; exact re_5_10y (by omega) (by rw [hkd]; rfl) hdp hdl)
      obtain ⟨m1, hm1⟩ : ∃ m1, ((m.next g (nI N)).dpTo (nI (d + 1))).push3 c 15 12 10 5 = m1 := ⟨_, rfl⟩
      have m1_tk : m1.tk = (m.next g (nI N)).tk := by rw [← hm1, f_push3_tk, f_dpTo_tk]
      have m1_at_ : m1.at_ = (m.next g (nI N)).at_ := by rw [← hm1, f_push3_at_, f_dpTo_at_]
      have m1_pl : m1.pl = (m.next g (nI N)).pl := by rw [← hm1, f_push3_pl, f_dpTo_pl]
      have m1_kd : m1.kd = (m.next g (nI N)).kd := by rw [← hm1, f_push3_kd, f_dpTo_kd]
      have m1_vl : m1.vl = (m.next g (nI N)).vl := by rw [← hm1, f_push3_vl, f_dpTo_vl]
      have m1_js : m1.js = m.js := by rw [← hm1, f_push3_js, f_dpTo_js, f_next_js]
      have m1_sz : m1.sz = m.sz := by rw [← hm1, f_push3_sz, f_dpTo_sz, f_next_sz]
      have m1_ks : m1.ks = (m.next g (nI N)).ks := by rw [← hm1, f_push3_ks, f_dpTo_ks]
      have m1_vs : m1.vs = (m.next g (nI N)).vs := by rw [← hm1, f_push3_vs, f_dpTo_vs]
      have m1_co : m1.co = m.co := by rw [← hm1, f_push3_co, f_dpTo_co, f_next_co]
      have m1_dp : m1.dp = (nI (d + 1)) := by rw [← hm1, f_push3_dp, f_dpTo_dp]
      have m1_gc : m1.gc = nI (c + 3) := by rw [← hm1, f_push3_gc]
      have m1_go : m1.go = upd (upd (upd m.go c 15) (c + 1) 12) (c + 2) 5 := by rw [← hm1, f_push3_go, f_dpTo_go, f_next_go]
      have m1_wi : m1.wi = upd (upd (upd m.wi c 0) (c + 1) 10) (c + 2) 0 := by rw [← hm1, f_push3_wi, f_dpTo_wi, f_next_wi]
      rw [hm1] at hrun
      have a1 : At g K V N n e m1 (t + 1) := hn.cong m1_tk m1_at_ m1_pl m1_kd m1_vl m1_ks m1_vs
      have g0 : m1.go c = 15 := by rw [m1_go]; rw [pk_un (by omega), pk_un (by omega), pk_us]
      have g1 : m1.go (c + 1) = 12 := by rw [m1_go]; rw [pk_un (by omega), pk_us]
      have w1 : m1.wi (c + 1) = 10 := by rw [m1_wi]; rw [pk_un (by omega), pk_us]
      have gl : ∀ i, i < c → m1.go i = m.go i := fun i hi => by rw [m1_go]; rw [pk_un (by omega), pk_un (by omega), pk_un (by omega)]
      have wl : ∀ i, i < c → m1.wi i = m.wi i := fun i hi => by rw [m1_wi]; rw [pk_un (by omega), pk_un (by omega), pk_un (by omega)]
      have p1 : Pre g K V N n e m1 (t + 1) j cs (q + 1) (c + 2) 5 := ⟨a1, (m1_js).trans (hjs), hj, (m1_sz).trans (hsz), by omega, by omega, m1_gc, by rw [m1_go]; rw [pk_us]⟩
      have dp1 : m1.dp = nI (d + 1) := m1_dp
      have co1 : m1.co = m.co := m1_co
      obtain ⟨o1, o2⟩ := hT hdl m1 (t + 1) j cs (q + 1) (c + 2) S W p1 dp1 (by omega)
      rw [deeper_y hdl]
      dsimp only
      rw [if10, if10, nI_1]
      rcases o2 with ⟨t', j', cs', k, S', W', m', e1, e2, e3, e4, e5, e6, e7, e8, e9, e10, e11, e12, e13, e14, e15, e16, e17, h, e18, e19⟩ | ⟨t', k, f1, f2, f3, f4, f5, f6⟩
      · rw [e1]
        dsimp only
        have hcs' : cs' < 2000 := by have := e10.1; omega
        rw [if10, if10, cond_add hcs']
        have fit2 : Fit (nI N) m' (c + 1) := fit_of L e10 e12 (by omega) (by omega)
        have r2 : Run g (nI N) told lo 1 m' ((m'.lay (2 * cs') 10 0).gcTo (c + 1)) := Run.one fit2 (by rw [e14]) (by rw [e15 (c + 1) (by omega), e16 (c + 1) (by omega), g1, w1]; exact re_12 e12 (by omega))
        obtain ⟨m2, hm2⟩ : ∃ m2, (m'.lay (2 * cs') 10 0).gcTo (c + 1) = m2 := ⟨_, rfl⟩
        rw [hm2] at r2
        have m2_tk : m2.tk = m'.tk := by rw [← hm2, f_gcTo_tk, f_lay_tk]
        have m2_at_ : m2.at_ = m'.at_ := by rw [← hm2, f_gcTo_at_, f_lay_at_]
        have m2_pl : m2.pl = m'.pl := by rw [← hm2, f_gcTo_pl, f_lay_pl]
        have m2_kd : m2.kd = m'.kd := by rw [← hm2, f_gcTo_kd, f_lay_kd]
        have m2_vl : m2.vl = m'.vl := by rw [← hm2, f_gcTo_vl, f_lay_vl]
        have m2_js : m2.js = m'.js := by rw [← hm2, f_gcTo_js, f_lay_js]
        have m2_sz : m2.sz = nI ((2 * cs') + 2) := by rw [← hm2, f_gcTo_sz, f_lay_sz]
        have m2_ks : m2.ks = m'.ks := by rw [← hm2, f_gcTo_ks, f_lay_ks]
        have m2_vs : m2.vs = m'.vs := by rw [← hm2, f_gcTo_vs, f_lay_vs]
        have m2_co : m2.co = upd (upd m'.co (2 * cs') 10) ((2 * cs') + 1) 0 := by rw [← hm2, f_gcTo_co, f_lay_co]
        have m2_dp : m2.dp = m'.dp := by rw [← hm2, f_gcTo_dp, f_lay_dp]
        have m2_gc : m2.gc = nI (c + 1) := by rw [← hm2, f_gcTo_gc]
        have m2_go : m2.go = m'.go := by rw [← hm2, f_gcTo_go, f_lay_go]
        have m2_wi : m2.wi = m'.wi := by rw [← hm2, f_gcTo_wi, f_lay_wi]
        have m2_A := e10.cong m2_tk m2_at_ m2_pl m2_kd m2_vl m2_ks m2_vs
        have fit3 : Fit (nI N) m2 c := fit_of L m2_A (two_up m2_sz) (by omega) (by omega)
        have r3 : Run g (nI N) told lo 1 m2 ((m2.dpTo (nI d)).gcTo c) := Run.one fit3 m2_gc (by rw [m2_go, e15 c (by omega), g0]; exact re_15 (m2_dp.trans (e13.trans dp1)))
        obtain ⟨m3, hm3⟩ : ∃ m3, (m2.dpTo (nI d)).gcTo c = m3 := ⟨_, rfl⟩
        rw [hm3] at r3
        have m3_tk : m3.tk = m2.tk := by rw [← hm3, f_gcTo_tk, f_dpTo_tk]
        have m3_at_ : m3.at_ = m2.at_ := by rw [← hm3, f_gcTo_at_, f_dpTo_at_]
        have m3_pl : m3.pl = m2.pl := by rw [← hm3, f_gcTo_pl, f_dpTo_pl]
        have m3_kd : m3.kd = m2.kd := by rw [← hm3, f_gcTo_kd, f_dpTo_kd]
        have m3_vl : m3.vl = m2.vl := by rw [← hm3, f_gcTo_vl, f_dpTo_vl]
        have m3_js : m3.js = m2.js := by rw [← hm3, f_gcTo_js, f_dpTo_js]
        have m3_sz : m3.sz = m2.sz := by rw [← hm3, f_gcTo_sz, f_dpTo_sz]
        have m3_ks : m3.ks = m2.ks := by rw [← hm3, f_gcTo_ks, f_dpTo_ks]
        have m3_vs : m3.vs = m2.vs := by rw [← hm3, f_gcTo_vs, f_dpTo_vs]
        have m3_co : m3.co = m2.co := by rw [← hm3, f_gcTo_co, f_dpTo_co]
        have m3_dp : m3.dp = (nI d) := by rw [← hm3, f_gcTo_dp, f_dpTo_dp]
        have m3_gc : m3.gc = nI c := by rw [← hm3, f_gcTo_gc]
        have m3_go : m3.go = m2.go := by rw [← hm3, f_gcTo_go, f_dpTo_go]
        have m3_wi : m3.wi = m2.wi := by rw [← hm3, f_gcTo_wi, f_dpTo_wi]
        have m3_A := m2_A.cong m3_tk m3_at_ m3_pl m3_kd m3_vl m3_ks m3_vs
        refine ⟨⟨hup, o1, up_of (by omega) (by decide), trivial⟩, Or.inl ⟨t', j', cs' + 1, 1 + k + 1 + 1, upd S' cs' 16, upd W' cs' 0, m3, rfl, by omega, by omega, by omega, e5, fun i hi => by rw [pk_un (by omega)]; exact e6 i hi, fun i hi => by rw [pk_un (by omega)]; exact e7 i hi, ((hrun.trans e8).trans r2).trans r3, by omega, m3_A, m3_js.trans (m2_js.trans e11), two_up (m3_sz.trans m2_sz), m3_dp.trans hdp.symm, m3_gc, fun i hi => by rw [m3_go, m2_go]; exact (e15 i (by omega)).trans (gl i hi), fun i hi => by rw [m3_wi, m2_wi]; exact (e16 i (by omega)).trans (wl i hi), fun i hi => ?_, h, ?_, by omega⟩⟩
        · rw [m3_co]
          exact (lay_lo m2_co (by omega)).trans ((e17 i hi).trans (by rw [co1]))
        · rw [m3_co]
          exact .not (e18.move (n := cs') (Nat.le_refl _) (Nat.le_refl _) (fun i hi => pk_un (by omega)) (fun i hi => pk_un (by omega)) (fun i hi => lay_lo m2_co hi)) pk_us (lay_s m2_co).1
      · rw [if_pos f1, if_pos f1]
        exact ⟨⟨hup, o1, trivial⟩, Or.inr ⟨t', 1 + k, rfl, f2, by omega, f4, hrun.fail f5, by omega⟩⟩
  by_cases k29 : k = 29
  · subst k29
    rw [if_neg (show ¬ nI 29 = 16 by decide), if_pos (show nI 29 = 29 from rfl), if_neg (show ¬ nI 29 = 16 by decide), if_pos (show nI 29 = 29 from rfl)]
    by_cases d20 : d = 20
    · subst d20
      rw [deeper_n]
      dsimp only
      rw [if_pos rfl, if_pos rfl]
      exact ⟨⟨hup, trivial⟩, Or.inr ⟨t, 1, rfl, rfl, Nat.le_refl _, ht, Fail.one hfit hgc (by rw [hgo]; exact re_5_28n (by omega) (by rw [hkd]; rfl) hdp) (by simp only [f_push3_pl, f_push2_pl, f_push2w_pl, f_gcTo_pl, f_dpTo_pl, f_lay_pl, f_jsTo_pl]; exact hpl), by omega⟩⟩
    · have hdl : d < 20 := by omega
      have hn := hat.next L hK (by decide) (by decide)
      have hrun : Run g (nI N) told lo 1 m (((m.next g (nI N)).dpTo (nI (d + 1))).push2 c 14 1) := Run.one hfit hgc (by rw [hgo]; exact re_5_28y (by omega) (by rw [hkd]; rfl) hdp hdl)
      obtain ⟨m1, hm1⟩ : ∃ m1, ((m.next g (nI N)).dpTo (nI (d + 1))).push2 c 14 1 = m1 := ⟨_, rfl⟩
      have m1_tk : m1.tk = (m.next g (nI N)).tk := by rw [← hm1, f_push2_tk, f_dpTo_tk]
      have m1_at_ : m1.at_ = (m.next g (nI N)).at_ := by rw [← hm1, f_push2_at_, f_dpTo_at_]
      have m1_pl : m1.pl = (m.next g (nI N)).pl := by rw [← hm1, f_push2_pl, f_dpTo_pl]
      have m1_kd : m1.kd = (m.next g (nI N)).kd := by rw [← hm1, f_push2_kd, f_dpTo_kd]
      have m1_vl : m1.vl = (m.next g (nI N)).vl := by rw [← hm1, f_push2_vl, f_dpTo_vl]
      have m1_js : m1.js = m.js := by rw [← hm1, f_push2_js, f_dpTo_js, f_next_js]
      have m1_sz : m1.sz = m.sz := by rw [← hm1, f_push2_sz, f_dpTo_sz, f_next_sz]
      have m1_ks : m1.ks = (m.next g (nI N)).ks := by rw [← hm1, f_push2_ks, f_dpTo_ks]
      have m1_vs : m1.vs = (m.next g (nI N)).vs := by rw [← hm1, f_push2_vs, f_dpTo_vs]
      have m1_co : m1.co = m.co := by rw [← hm1, f_push2_co, f_dpTo_co, f_next_co]
      have m1_dp : m1.dp = (nI (d + 1)) := by rw [← hm1, f_push2_dp, f_dpTo_dp]
      have m1_gc : m1.gc = nI (c + 2) := by rw [← hm1, f_push2_gc]
      have m1_go : m1.go = upd (upd m.go c 14) (c + 1) 1 := by rw [← hm1, f_push2_go, f_dpTo_go, f_next_go]
      have m1_wi : m1.wi = upd (upd m.wi c 0) (c + 1) 0 := by rw [← hm1, f_push2_wi, f_dpTo_wi, f_next_wi]
      rw [hm1] at hrun
      have a1 : At g K V N n e m1 (t + 1) := hn.cong m1_tk m1_at_ m1_pl m1_kd m1_vl m1_ks m1_vs
      have g0 : m1.go c = 14 := by rw [m1_go]; rw [pk_un (by omega), pk_us]
      have gl : ∀ i, i < c → m1.go i = m.go i := fun i hi => by rw [m1_go]; rw [pk_un (by omega), pk_un (by omega)]
      have wl : ∀ i, i < c → m1.wi i = m.wi i := fun i hi => by rw [m1_wi]; rw [pk_un (by omega), pk_un (by omega)]
      have p1 : Pre g K V N n e m1 (t + 1) j cs (q + 1) (c + 1) 1 := ⟨a1, (m1_js).trans (hjs), hj, (m1_sz).trans (hsz), by omega, by omega, m1_gc, by rw [m1_go]; rw [pk_us]⟩
      have dp1 : m1.dp = nI (d + 1) := m1_dp
      have co1 : m1.co = m.co := m1_co
      obtain ⟨o1, o2⟩ := hC hdl m1 (t + 1) j cs (q + 1) (c + 1) S W p1 dp1 (by omega)
      rw [deeper_y hdl]
      dsimp only
      rw [if10, if10, nI_1]
      rcases o2 with ⟨t', j', cs', k, S', W', m', e1, e2, e3, e4, e5, e6, e7, e8, e9, e10, e11, e12, e13, e14, e15, e16, e17, h, e18, e19⟩ | ⟨t', k, f1, f2, f3, f4, f5, f6⟩
      · rw [e1]
        dsimp only
        have ht'n := e10.1
        obtain ⟨k', hk', hK', hkd', hpl', htok', hlt'⟩ := L.kind ht'n
        rw [e10.2.2.1] at hkd' hpl' htok'
        have hkd' : m'.kd = nI (km k') := hkd'
        have hpl' : m'.pl = P t' := hpl'
        have fit2 : Fit (nI N) m' c := fit_of L e10 e12 (by omega) (by omega)
        have htake := par_take (K := K) (t := t') (x := 30) (by omega) hK' hk' (by decide)
        have htake' : s_Par_take K (nI t') 30 = if k' = 30 then (1, nI (t' + 1)) else (0, nI t') := htake
        rw [if10, if10, htake']
        by_cases c30 : k' = 30
        · subst c30
          have hn' := e10.next L hK' (by decide) (by decide)
          have r2 : Run g (nI N) told lo 1 m' (((m'.next g (nI N)).dpTo (nI d)).gcTo c) := Run.one fit2 e14 (by rw [e15 c (by omega), g0]; exact re_14y (e13.trans dp1) (by rw [hkd']; rfl))
          obtain ⟨m2, hm2⟩ : ∃ m2, ((m'.next g (nI N)).dpTo (nI d)).gcTo c = m2 := ⟨_, rfl⟩
          rw [hm2] at r2
          have m2_tk : m2.tk = (m'.next g (nI N)).tk := by rw [← hm2, f_gcTo_tk, f_dpTo_tk]
          have m2_at_ : m2.at_ = (m'.next g (nI N)).at_ := by rw [← hm2, f_gcTo_at_, f_dpTo_at_]
          have m2_pl : m2.pl = (m'.next g (nI N)).pl := by rw [← hm2, f_gcTo_pl, f_dpTo_pl]
          have m2_kd : m2.kd = (m'.next g (nI N)).kd := by rw [← hm2, f_gcTo_kd, f_dpTo_kd]
          have m2_vl : m2.vl = (m'.next g (nI N)).vl := by rw [← hm2, f_gcTo_vl, f_dpTo_vl]
          have m2_js : m2.js = m'.js := by rw [← hm2, f_gcTo_js, f_dpTo_js, f_next_js]
          have m2_sz : m2.sz = m'.sz := by rw [← hm2, f_gcTo_sz, f_dpTo_sz, f_next_sz]
          have m2_ks : m2.ks = (m'.next g (nI N)).ks := by rw [← hm2, f_gcTo_ks, f_dpTo_ks]
          have m2_vs : m2.vs = (m'.next g (nI N)).vs := by rw [← hm2, f_gcTo_vs, f_dpTo_vs]
          have m2_co : m2.co = m'.co := by rw [← hm2, f_gcTo_co, f_dpTo_co, f_next_co]
          have m2_dp : m2.dp = (nI d) := by rw [← hm2, f_gcTo_dp, f_dpTo_dp]
          have m2_gc : m2.gc = nI c := by rw [← hm2, f_gcTo_gc]
          have m2_go : m2.go = m'.go := by rw [← hm2, f_gcTo_go, f_dpTo_go, f_next_go]
          have m2_wi : m2.wi = m'.wi := by rw [← hm2, f_gcTo_wi, f_dpTo_wi, f_next_wi]
          have m2_A := hn'.cong m2_tk m2_at_ m2_pl m2_kd m2_vl m2_ks m2_vs
          rw [if_pos rfl]
          dsimp only
          rw [if10, if10]
          refine ⟨⟨hup, o1, up_of (by omega) (by decide), trivial⟩, Or.inl ⟨t' + 1, j', cs', 1 + k + 1, S', W', m2, rfl, by omega, by omega, by omega, e5, e6, e7, (hrun.trans e8).trans r2, by omega, m2_A, m2_js.trans e11, m2_sz.trans e12, m2_dp.trans hdp.symm, m2_gc, fun i hi => by rw [m2_go]; exact (e15 i (by omega)).trans (gl i hi), fun i hi => by rw [m2_wi]; exact (e16 i (by omega)).trans (wl i hi), fun i hi => by rw [m2_co]; exact (e17 i hi).trans (by rw [co1]), h, by rw [m2_co]; exact e18, by omega⟩⟩
        · have r2 : Fail g (nI N) told lo 1 m' (P t') := Fail.one fit2 e14 (by rw [e15 c (by omega), g0]; exact re_14n (e13.trans dp1) (kd_ne (x := 30) hkd' hk' (by decide) c30)) (by simp only [f_push3_pl, f_push2_pl, f_push2w_pl, f_gcTo_pl, f_dpTo_pl, f_lay_pl, f_jsTo_pl]; exact hpl')
          rw [if_neg c30]
          dsimp only
          rw [if_pos rfl, if_pos rfl]
          exact ⟨⟨hup, o1, up_of (by omega) (by decide), trivial⟩, Or.inr ⟨t', 1 + k + 1, rfl, rfl, by omega, ht'n, (hrun.trans e8).fail r2, by omega⟩⟩
      · rw [if_pos f1, if_pos f1]
        exact ⟨⟨hup, o1, trivial⟩, Or.inr ⟨t', 1 + k, rfl, f2, by omega, f4, hrun.fail f5, by omega⟩⟩
  by_cases k4 : k = 4
  · subst k4
    obtain ⟨ht', hvl, hat1, v, hv, hVt⟩ := htok (by decide)
    have hvl : m.vl = nI v := (show m.vl = V t from hvl).trans hVt
    have hv26 := (hv.2.2.2.2.1 rfl).2
    have hlet : s_Scr_letOf LO (V t) = LO v := by
      unfold s_Scr_letOf
      rw [hVt, if_neg (nI_pos (by omega)), if_neg (geL (N := 26) (b := 26) rfl hv26 (by decide)), nI_clamp (by omega)]
    rw [if_neg (show ¬ nI 4 = 16 by decide), if_neg (show ¬ nI 4 = 29 by decide), if_pos (show nI 4 = 4 from rfl), if_neg (show ¬ nI 4 = 16 by decide), if_neg (show ¬ nI 4 = 29 by decide), if_pos (show nI 4 = 4 from rfl), hlet, cond_add (by omega)]
    dsimp only
    rcases R.2 v hv26 with ⟨l1, l2⟩ | ⟨l1, l, l2, l3, l4⟩
    · rw [if_pos l1, if_pos l1]
      exact ⟨⟨hup, hup, hup2, trivial⟩, Or.inr ⟨t, 1, rfl, rfl, Nat.le_refl _, ht, Fail.one hfit hgc (by rw [hgo]; exact re_5_14u (by rw [hkd]; rfl) hvl hv26 l2) (by simp only [f_push3_pl, f_push2_pl, f_push2w_pl, f_gcTo_pl, f_dpTo_pl, f_lay_pl, f_jsTo_pl]; exact hpl), by omega⟩⟩
    · have hl1 : ¬ LO v = -1 := by
        rw [l3]
        have hL := R.1
        intro z
        have := congrArg Int32.toInt z
        rw [nI_toInt (by omega), show (-1 : Int32).toInt = -1 by decide] at this
        omega
      rw [if_neg hl1, if_neg hl1]
      by_cases j150 : j = 150
      · subst j150
        rw [joint_n]
        dsimp only
        rw [if_pos rfl, if_pos rfl]
        exact ⟨⟨hup, hup, hup2, trivial⟩, Or.inr ⟨t, 1, rfl, rfl, Nat.le_refl _, ht, Fail.one hfit hgc (by rw [hgo]; exact re_5_14n (by rw [hkd]; rfl) hvl hv26 l1 hsz (by omega) hjs) (by simp only [f_push3_pl, f_push2_pl, f_push2w_pl, f_gcTo_pl, f_dpTo_pl, f_lay_pl, f_jsTo_pl]; exact hpl), by omega⟩⟩
      · have hn := hat.next L hK (by decide) (by decide)
        have hrun : Run g (nI N) told lo 1 m ((((m.next g (nI N)).lay (2 * cs) 40 (lo v)).jsTo (nI (j + 1))).gcTo c) := Run.one hfit hgc (by rw [hgo]; exact re_5_14y (by rw [hkd]; rfl) hvl hv26 l1 hsz (by omega) hjs (by omega))
        obtain ⟨m1, hm1⟩ : ∃ m1, (((m.next g (nI N)).lay (2 * cs) 40 (lo v)).jsTo (nI (j + 1))).gcTo c = m1 := ⟨_, rfl⟩
        rw [hm1] at hrun
        have m1_tk : m1.tk = (m.next g (nI N)).tk := by rw [← hm1, f_gcTo_tk, f_jsTo_tk, f_lay_tk]
        have m1_at_ : m1.at_ = (m.next g (nI N)).at_ := by rw [← hm1, f_gcTo_at_, f_jsTo_at_, f_lay_at_]
        have m1_pl : m1.pl = (m.next g (nI N)).pl := by rw [← hm1, f_gcTo_pl, f_jsTo_pl, f_lay_pl]
        have m1_kd : m1.kd = (m.next g (nI N)).kd := by rw [← hm1, f_gcTo_kd, f_jsTo_kd, f_lay_kd]
        have m1_vl : m1.vl = (m.next g (nI N)).vl := by rw [← hm1, f_gcTo_vl, f_jsTo_vl, f_lay_vl]
        have m1_js : m1.js = (nI (j + 1)) := by rw [← hm1, f_gcTo_js, f_jsTo_js]
        have m1_sz : m1.sz = nI ((2 * cs) + 2) := by rw [← hm1, f_gcTo_sz, f_jsTo_sz, f_lay_sz]
        have m1_ks : m1.ks = (m.next g (nI N)).ks := by rw [← hm1, f_gcTo_ks, f_jsTo_ks, f_lay_ks]
        have m1_vs : m1.vs = (m.next g (nI N)).vs := by rw [← hm1, f_gcTo_vs, f_jsTo_vs, f_lay_vs]
        have m1_co : m1.co = upd (upd m.co (2 * cs) 40) ((2 * cs) + 1) (lo v) := by rw [← hm1, f_gcTo_co, f_jsTo_co, f_lay_co, f_next_co]
        have m1_dp : m1.dp = m.dp := by rw [← hm1, f_gcTo_dp, f_jsTo_dp, f_lay_dp, f_next_dp]
        have m1_gc : m1.gc = nI c := by rw [← hm1, f_gcTo_gc]
        have m1_go : m1.go = m.go := by rw [← hm1, f_gcTo_go, f_jsTo_go, f_lay_go, f_next_go]
        have m1_wi : m1.wi = m.wi := by rw [← hm1, f_gcTo_wi, f_jsTo_wi, f_lay_wi, f_next_wi]
        have m1_A := hn.cong m1_tk m1_at_ m1_pl m1_kd m1_vl m1_ks m1_vs
        rw [joint_y (by omega)]
        dsimp only
        rw [if10, if10]
        refine ⟨⟨hup, hup, hup2, trivial⟩, Or.inl ⟨t + 1, j + 1, cs + 1, 1, upd S cs 4, upd W cs (LO v), m1, rfl, by omega, by omega, by omega, by omega, fun i hi => pk_un (by omega), fun i hi => pk_un (by omega), hrun, by omega, m1_A, m1_js, two_up m1_sz, m1_dp, m1_gc, fun i _ => by rw [m1_go], fun i _ => by rw [m1_wi], fun i hi => lay_lo m1_co hi, 1, .name (l := l) pk_us ?_ ?_ ?_ l2, by omega⟩⟩
        · exact (lay_s m1_co).1
        · rw [pk_us, l3]
        · exact ((lay_s m1_co).2).trans l4
  · have q1 : ¬ nI k = 16 := neR (N := 16) (j := 16) rfl (by omega) (by decide) k16
    have q2 : ¬ nI k = 29 := neR (N := 29) (j := 29) rfl (by omega) (by decide) k29
    have q3 : ¬ nI k = 4 := neR (N := 4) (j := 4) rfl (by omega) (by decide) k4
    have n1 : ¬ m.kd = 10 := kd_ne (x := 16) hkd hk (by decide) k16
    have n2 : ¬ m.kd = 28 := kd_ne (x := 29) hkd hk (by decide) k29
    have n3 : ¬ m.kd = 14 := kd_ne (x := 4) hkd hk (by decide) k4
    rw [if_neg q1, if_neg q2, if_neg q3, if_neg q1, if_neg q2, if_neg q3]
    by_cases st : s_Mo_isSumStart (nI (km k)) = 0
    · obtain ⟨z1, z2, z3, z4⟩ := (start_k hk).mp st
      obtain ⟨o1, o2⟩ := hB t j cs k S W ht hK hk z1 z2 z3 z4
      rw [o2]
      dsimp only
      rw [if_pos rfl, if_pos rfl]
      exact ⟨⟨hup, o1, trivial⟩, Or.inr ⟨t, 1, rfl, rfl, Nat.le_refl _, ht, Fail.one hfit hgc (by rw [hgo]; exact re_5_sn (by omega) n1 n2 n3 (by rw [hkd]; exact st)) (by simp only [f_push3_pl, f_push2_pl, f_push2w_pl, f_gcTo_pl, f_dpTo_pl, f_lay_pl, f_jsTo_pl]; exact hpl), by omega⟩⟩
    · have hrun : Run g (nI N) told lo 1 m (m.push2 c 11 6) := Run.one hfit hgc (by rw [hgo]; exact re_5_sy (by omega) n1 n2 n3 (by rw [hkd]; exact st))
      obtain ⟨m1, hm1⟩ : ∃ m1, m.push2 c 11 6 = m1 := ⟨_, rfl⟩
      have m1_tk : m1.tk = m.tk := by rw [← hm1, f_push2_tk]
      have m1_at_ : m1.at_ = m.at_ := by rw [← hm1, f_push2_at_]
      have m1_pl : m1.pl = m.pl := by rw [← hm1, f_push2_pl]
      have m1_kd : m1.kd = m.kd := by rw [← hm1, f_push2_kd]
      have m1_vl : m1.vl = m.vl := by rw [← hm1, f_push2_vl]
      have m1_js : m1.js = m.js := by rw [← hm1, f_push2_js]
      have m1_sz : m1.sz = m.sz := by rw [← hm1, f_push2_sz]
      have m1_ks : m1.ks = m.ks := by rw [← hm1, f_push2_ks]
      have m1_vs : m1.vs = m.vs := by rw [← hm1, f_push2_vs]
      have m1_co : m1.co = m.co := by rw [← hm1, f_push2_co]
      have m1_dp : m1.dp = m.dp := by rw [← hm1, f_push2_dp]
      have m1_gc : m1.gc = nI (c + 2) := by rw [← hm1, f_push2_gc]
      have m1_go : m1.go = upd (upd m.go c 11) (c + 1) 6 := by rw [← hm1, f_push2_go]
      have m1_wi : m1.wi = upd (upd m.wi c 0) (c + 1) 0 := by rw [← hm1, f_push2_wi]
      rw [hm1] at hrun
      have g0 : m1.go c = 11 := by rw [m1_go]; rw [pk_un (by omega), pk_us]
      have gl : ∀ i, i < c → m1.go i = m.go i := fun i hi => by rw [m1_go]; rw [pk_un (by omega), pk_un (by omega)]
      have wl : ∀ i, i < c → m1.wi i = m.wi i := fun i hi => by rw [m1_wi]; rw [pk_un (by omega), pk_un (by omega)]
      have p1 : Pre g K V N n e m1 t j cs q (c + 1) 6 := ⟨hat.cong m1_tk m1_at_ m1_pl m1_kd m1_vl m1_ks m1_vs, (m1_js).trans (hjs), hj, (m1_sz).trans (hsz), hcq, hq, m1_gc, by rw [m1_go]; rw [pk_us]⟩
      have dp1 : m1.dp = nI d := (m1_dp).trans (hdp)
      have co1 : m1.co = m.co := m1_co
      obtain ⟨o1, o2⟩ := hS m1 t j cs q (c + 1) S W p1 dp1 (by omega)
      rcases o2 with ⟨t', j', cs', k1, S', W', m', e1, e2, e3, e4, e5, e6, e7, e8, e9, e10, e11, e12, e13, e14, e15, e16, e17, h, e18, e19⟩ | ⟨t', k1, f1, f2, f3, f4, f5, f6⟩
      · rw [e1]
        dsimp only
        rw [if10, if10]
        have ht'n := e10.1
        have hlt1 := e18.lt
        obtain ⟨k', hk', hK', hkd', hpl', htok', hlt'⟩ := L.kind ht'n
        rw [e10.2.2.1] at hkd' hpl' htok'
        have hkd' : m'.kd = nI (km k') := hkd'
        have hpl' : m'.pl = P t' := hpl'
        have fit2 : Fit (nI N) m' c := fit_of L e10 e12 (by omega) (by omega)
        have hup' : up (nI t') 2001 := up_of (by omega) (by decide)
        have g0' : m'.go c = 11 := (e15 c (by omega)).trans g0
        rw [par_kind (show t' ≤ 2000 by omega), hK']
        by_cases cmp : 17 ≤ k' ∧ k' ≤ 22
        · have hin : ¬ s_Mo_in m'.kd 17 22 = 0 := by rw [hkd']; exact fun z => (in_cmp hk').mp z cmp
          have x1 : ¬ nI k' < 17 := nltR (N := 17) (b := 17) rfl cmp.1 (by omega)
          have x2 : ¬ (22 : Int32) < nI k' := nltL (N := 22) (a := 22) rfl cmp.2 (by decide)
          rw [if_neg x1, if_neg x2, if_neg x1, if_neg x2]
          by_cases j150 : j' = 150
          · subst j150
            rw [joint_n]
            dsimp only
            rw [if_pos rfl, if_pos rfl]
            have r2 : Fail g (nI N) told lo 1 m' (P t') := Fail.one fit2 e14 (by rw [g0']; exact re_11_n (by omega) hin e11) (by simp only [f_push3_pl, f_push2_pl, f_push2w_pl, f_gcTo_pl, f_dpTo_pl, f_lay_pl, f_jsTo_pl]; exact hpl')
            exact ⟨⟨hup, o1, hup', trivial⟩, Or.inr ⟨t', 1 + k1 + 1, rfl, rfl, e2, ht'n, (hrun.trans e8).fail r2, by omega⟩⟩
          · have hn' := e10.next L hK' (by omega) hk'
            have htn' := (htok' (by omega)).1
            have r2 : Run g (nI N) told lo 1 m' (((m'.next g (nI N)).jsTo (nI (j' + 1))).push2w c 12 m'.kd 6) := Run.one fit2 e14 (by rw [g0']; exact re_11_y (by omega) hin e11 (by omega))
            obtain ⟨m2, hm2⟩ : ∃ m2, ((m'.next g (nI N)).jsTo (nI (j' + 1))).push2w c 12 m'.kd 6 = m2 := ⟨_, rfl⟩
            have m2_tk : m2.tk = (m'.next g (nI N)).tk := by rw [← hm2, f_push2w_tk, f_jsTo_tk]
            have m2_at_ : m2.at_ = (m'.next g (nI N)).at_ := by rw [← hm2, f_push2w_at_, f_jsTo_at_]
            have m2_pl : m2.pl = (m'.next g (nI N)).pl := by rw [← hm2, f_push2w_pl, f_jsTo_pl]
            have m2_kd : m2.kd = (m'.next g (nI N)).kd := by rw [← hm2, f_push2w_kd, f_jsTo_kd]
            have m2_vl : m2.vl = (m'.next g (nI N)).vl := by rw [← hm2, f_push2w_vl, f_jsTo_vl]
            have m2_js : m2.js = (nI (j' + 1)) := by rw [← hm2, f_push2w_js, f_jsTo_js]
            have m2_sz : m2.sz = m'.sz := by rw [← hm2, f_push2w_sz, f_jsTo_sz, f_next_sz]
            have m2_ks : m2.ks = (m'.next g (nI N)).ks := by rw [← hm2, f_push2w_ks, f_jsTo_ks]
            have m2_vs : m2.vs = (m'.next g (nI N)).vs := by rw [← hm2, f_push2w_vs, f_jsTo_vs]
            have m2_co : m2.co = m'.co := by rw [← hm2, f_push2w_co, f_jsTo_co, f_next_co]
            have m2_dp : m2.dp = m'.dp := by rw [← hm2, f_push2w_dp, f_jsTo_dp, f_next_dp]
            have m2_gc : m2.gc = nI (c + 2) := by rw [← hm2, f_push2w_gc]
            have m2_go : m2.go = upd (upd m'.go c 12) (c + 1) 6 := by rw [← hm2, f_push2w_go, f_jsTo_go, f_next_go]
            have m2_wi : m2.wi = upd (upd m'.wi c m'.kd) (c + 1) 0 := by rw [← hm2, f_push2w_wi, f_jsTo_wi, f_next_wi]
            rw [hm2] at r2
            have a2 : At g K V N n e m2 (t' + 1) := hn'.cong m2_tk m2_at_ m2_pl m2_kd m2_vl m2_ks m2_vs
            have gg0 : m2.go c = 12 := by rw [m2_go]; rw [pk_un (by omega), pk_us]
            have ww0 : m2.wi c = nI (km k') := by rw [m2_wi]; rw [pk_un (by omega), pk_us]; exact hkd'
            have gl2 : ∀ i, i < c → m2.go i = m.go i := fun i hi => by rw [m2_go]; rw [pk_un (by omega), pk_un (by omega)]; exact (e15 i (by omega)).trans (gl i hi)
            have wl2 : ∀ i, i < c → m2.wi i = m.wi i := fun i hi => by rw [m2_wi]; rw [pk_un (by omega), pk_un (by omega)]; exact (e16 i (by omega)).trans (wl i hi)
            have p2 : Pre g K V N n e m2 (t' + 1) (j' + 1) cs' (q + 1) (c + 1) 6 := ⟨a2, m2_js, by omega, (m2_sz).trans (e12), by omega, by omega, m2_gc, by rw [m2_go]; rw [pk_us]⟩
            have dp2 : m2.dp = nI d := (m2_dp).trans (e13.trans dp1)
            have co2 : m2.co = m'.co := m2_co
            obtain ⟨u1, u2⟩ := hS m2 (t' + 1) (j' + 1) cs' (q + 1) (c + 1) S' W' p2 dp2 (by omega)
            rw [joint_y (by omega)]
            dsimp only
            rw [if10, if10]
            rcases u2 with ⟨t2, j2, cs2, k2, S2, W2, m3, v1, v2, v3, v4, v5, v6, v7, v8, v9, v10, v11, v12, v13, v14, v15, v16, v17, h2, v18, v19⟩ | ⟨t2, k2, v1, v2, v3, v4, v5, v6⟩
            · rw [v1]
              dsimp only
              have hcs2 : cs2 < 2000 := by have := v10.1; omega
              have hlt2 := v18.lt
              rw [if10, if10, cond_add hcs2]
              have fit3 : Fit (nI N) m3 c := fit_of L v10 v12 (by omega) (by omega)
              have r3 : Run g (nI N) told lo 1 m3 ((m3.lay (2 * cs2) (nI (km k')) 0).gcTo c) := Run.one fit3 v14 (by rw [v15 c (by omega), v16 c (by omega), gg0, ww0]; exact re_12 v12 (by omega))
              obtain ⟨m4, hm4⟩ : ∃ m4, (m3.lay (2 * cs2) (nI (km k')) 0).gcTo c = m4 := ⟨_, rfl⟩
              rw [hm4] at r3
              have m4_tk : m4.tk = m3.tk := by rw [← hm4, f_gcTo_tk, f_lay_tk]
              have m4_at_ : m4.at_ = m3.at_ := by rw [← hm4, f_gcTo_at_, f_lay_at_]
              have m4_pl : m4.pl = m3.pl := by rw [← hm4, f_gcTo_pl, f_lay_pl]
              have m4_kd : m4.kd = m3.kd := by rw [← hm4, f_gcTo_kd, f_lay_kd]
              have m4_vl : m4.vl = m3.vl := by rw [← hm4, f_gcTo_vl, f_lay_vl]
              have m4_js : m4.js = m3.js := by rw [← hm4, f_gcTo_js, f_lay_js]
              have m4_sz : m4.sz = nI ((2 * cs2) + 2) := by rw [← hm4, f_gcTo_sz, f_lay_sz]
              have m4_ks : m4.ks = m3.ks := by rw [← hm4, f_gcTo_ks, f_lay_ks]
              have m4_vs : m4.vs = m3.vs := by rw [← hm4, f_gcTo_vs, f_lay_vs]
              have m4_co : m4.co = upd (upd m3.co (2 * cs2) (nI (km k'))) ((2 * cs2) + 1) 0 := by rw [← hm4, f_gcTo_co, f_lay_co]
              have m4_dp : m4.dp = m3.dp := by rw [← hm4, f_gcTo_dp, f_lay_dp]
              have m4_gc : m4.gc = nI c := by rw [← hm4, f_gcTo_gc]
              have m4_go : m4.go = m3.go := by rw [← hm4, f_gcTo_go, f_lay_go]
              have m4_wi : m4.wi = m3.wi := by rw [← hm4, f_gcTo_wi, f_lay_wi]
              have m4_A := v10.cong m4_tk m4_at_ m4_pl m4_kd m4_vl m4_ks m4_vs
              refine ⟨⟨hup, o1, hup', u1, up_of (by omega) (by decide), trivial⟩, Or.inl ⟨t2, j2, cs2 + 1, 1 + k1 + 1 + k2 + 1, upd S2 cs2 (nI k'), upd W2 cs2 0, m4, rfl, by omega, by omega, by omega, v5, fun i hi => ?_, fun i hi => ?_, ((((hrun.trans e8).trans r2).trans v8).trans r3), by omega, m4_A, m4_js.trans v11, two_up m4_sz, m4_dp.trans (v13.trans (dp2.trans hdp.symm)), m4_gc, fun i hi => by rw [m4_go]; exact (v15 i (by omega)).trans (gl2 i hi), fun i hi => by rw [m4_wi]; exact (v16 i (by omega)).trans (wl2 i hi), fun i hi => ?_, max h (h2 + 1), ?_, by omega⟩⟩
              · rw [pk_un (by omega), v6 i (by omega)]
                exact e6 i hi
              · rw [pk_un (by omega), v7 i (by omega)]
                exact e7 i hi
              · exact (lay_lo m4_co (by omega)).trans ((v17 i (by omega)).trans (by rw [co2]; exact (e17 i hi).trans (by rw [co1])))
              · refine .cmp (k := k') (e18.move (n := cs') (Nat.le_refl _) (fun i hi => ?_) (fun i hi => ?_) (fun i hi => ?_)) (v18.move (n := cs2) (Nat.le_refl _) (fun i hi => pk_un (by omega)) (fun i hi => pk_un (by omega)) (fun i hi => lay_lo m4_co hi)) cmp.1 cmp.2 pk_us ?_
                · rw [pk_un (by omega)]
                  exact v6 i hi
                · rw [pk_un (by omega)]
                  exact v7 i hi
                · exact (lay_lo m4_co (by omega)).trans ((v17 i hi).trans (by rw [co2]))
                · exact (lay_s m4_co).1
            · rw [if_pos v1, if_pos v1]
              exact ⟨⟨hup, o1, hup', u1, trivial⟩, Or.inr ⟨t2, 1 + k1 + 1 + k2, rfl, v2, by omega, v4, ((hrun.trans e8).trans r2).fail v5, by omega⟩⟩
        · have hin : s_Mo_in m'.kd 17 22 = 0 := by rw [hkd']; exact (in_cmp hk').mpr cmp
          have r2 : Fail g (nI N) told lo 1 m' (P t') := Fail.one fit2 e14 (by rw [g0']; exact re_11_0 hin) (by simp only [f_push3_pl, f_push2_pl, f_push2w_pl, f_gcTo_pl, f_dpTo_pl, f_lay_pl, f_jsTo_pl]; exact hpl')
          by_cases y1 : nI k' < 17
          · rw [if_pos y1, if_pos y1]
            exact ⟨⟨hup, o1, hup', trivial⟩, Or.inr ⟨t', 1 + k1 + 1, rfl, rfl, e2, ht'n, (hrun.trans e8).fail r2, by omega⟩⟩
          · have y2 : (22 : Int32) < nI k' := ltL (N := 22) (a := 22) rfl (by
              have : ¬ k' < 17 := fun z => y1 (ltR (N := 17) (b := 17) rfl z (by decide))
              omega) (by omega)
            rw [if_neg y1, if_pos y2, if_neg y1, if_pos y2]
            exact ⟨⟨hup, o1, hup', trivial⟩, Or.inr ⟨t', 1 + k1 + 1, rfl, rfl, e2, ht'n, (hrun.trans e8).fail r2, by omega⟩⟩
      · rw [if_pos f1, if_pos f1]
        exact ⟨⟨hup, o1, trivial⟩, Or.inr ⟨t', 1 + k1, rfl, f2, f3, f4, hrun.fail f5, by omega⟩⟩
end TRU
